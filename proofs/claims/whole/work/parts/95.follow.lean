/-! ===== what comes to the nodes, worked out by the class ===== -/
def AtC (f : Nat → Int) (g : Dt → Nat) (T : Tab) (L : List Nd) (p : Nat → Nat) (i : Nat) : Prop := ∀ k, k < L.length → (k = 0 ∨ p k < i) → f k = ((g (CM T L p k) : Nat) : Int)
theorem atc_stp {T : Tab} {L : List Nd} {p dp : Nat → Nat} (hD : TrD L dp) (hp : PaOK L p) {i q : Nat} (hi : i < L.length) (h0 : (ndA L i).1 ≠ 0) (hq : q = (ndA L i).2.2.toNat) {f f1 f2 : Nat → Int} {g : Dt → Nat} (h : AtC f g T L p i) (e1 : f1 = pm_upd f (i + 1) ((g (dStp T (ndA L i).1 (ndA L i).2.1 true (CM T L p i)) : Nat) : Int)) (e2 : f2 = pm_upd f1 q ((g (dStp T (ndA L i).1 (ndA L i).2.1 false (CM T L p i)) : Nat) : Int)) : AtC f2 g T L p (i + 1) := by
  obtain ⟨_, g2, g3, g4, _, _⟩ := (hD.2.2.2 i hi).2.2.2 h0
  have q1 : i + 1 < q := by omega
  intro k hk ho
  rw [e2, e1]
  by_cases x : k = q
  · rw [x, pm_upd_eq, hq, CM_2 hD hp hi h0]
  by_cases y : k = i + 1
  · rw [y, pm_upd_ne (show i + 1 ≠ q by omega), pm_upd_eq, CM_1 hD hp hi h0]
  · rw [pm_upd_ne x, pm_upd_ne y]
    refine h k hk ?_
    by_cases z : k = 0
    · exact Or.inl z
    · refine Or.inr ?_
      obtain ⟨p1, _, p3⟩ := hp.2 k (by omega) hk
      have : p k ≠ i := fun e => by
        rw [e] at p3
        rcases p3 with w | w
        · exact y w
        · exact x (by rw [w, hq])
      rcases ho with o | o
      · exact absurd o z
      · omega
theorem atc_leaf {T : Tab} {L : List Nd} {p : Nat → Nat} (hp : PaOK L p) {i : Nat} (h0 : (ndA L i).1 = 0) {f : Nat → Int} {g : Dt → Nat} (h : AtC f g T L p i) : AtC f g T L p (i + 1) := by
  intro k hk ho
  refine h k hk ?_
  by_cases z : k = 0
  · exact Or.inl z
  · refine Or.inr ?_
    obtain ⟨p1, p2, _⟩ := hp.2 k (by omega) hk
    have : p k ≠ i := fun e => p2 (by rw [e]; exact h0)
    rcases ho with o | o
    · exact absurd o z
    · omega
theorem atc_at {T : Tab} {L : List Nd} {p : Nat → Nat} (hp : PaOK L p) {i : Nat} (hi : i < L.length) {f : Nat → Int} {g : Dt → Nat} (h : AtC f g T L p i) : f i = ((g (CM T L p i) : Nat) : Int) := h i hi (by
  by_cases z : i = 0
  · exact Or.inl z
  · exact Or.inr (hp.2 i (by omega) hi).1)
theorem atc_all {T : Tab} {L : List Nd} {p : Nat → Nat} (hp : PaOK L p) {k : Nat} (hk : k < L.length) {f : Nat → Int} {g : Dt → Nat} (h : AtC f g T L p L.length) : f k = ((g (CM T L p k) : Nat) : Int) := h k hk (by
  by_cases z : k = 0
  · exact Or.inl z
  · exact Or.inr (by have := (hp.2 k (by omega) hk).1; omega))
/-- six columns of what comes to nodes -/
def A6 (M : pm_M) (P : Nat) (T : Tab) (L : List Nd) (p : Nat → Nat) (i : Nat) : Prop := AtC (pm_ct M (P + 5)) (fun e => e.1) T L p i ∧ AtC (pm_ct M (P + 6)) (fun e => e.2.1) T L p i ∧ AtC (pm_ct M (P + 7)) (fun e => e.2.2.1) T L p i ∧ AtC (pm_ct M (P + 8)) (fun e => e.2.2.2.1) T L p i ∧ AtC (pm_ct M (P + 9)) (fun e => e.2.2.2.2.1) T L p i ∧ AtC (pm_ct M (P + 10)) (fun e => e.2.2.2.2.2) T L p i
theorem A6.cm {M : pm_M} {P : Nat} {T : Tab} {L : List Nd} {p : Nat → Nat} (hp : PaOK L p) (h : A6 M P T L p L.length) : CmAt M P T L p := fun _ hk =>
  ⟨atc_all hp hk h.1, atc_all hp hk h.2.1, atc_all hp hk h.2.2.1, atc_all hp hk h.2.2.2.1, atc_all hp hk h.2.2.2.2.1, atc_all hp hk h.2.2.2.2.2⟩
/-- a node's six values put at a place -/
def U6 (M N : pm_M) (P q : Nat) (e : Dt) : Prop := pm_ct N (P + 5) = pm_upd (pm_ct M (P + 5)) q (e.1 : Int) ∧ pm_ct N (P + 6) = pm_upd (pm_ct M (P + 6)) q (e.2.1 : Int) ∧ pm_ct N (P + 7) = pm_upd (pm_ct M (P + 7)) q (e.2.2.1 : Int) ∧ pm_ct N (P + 8) = pm_upd (pm_ct M (P + 8)) q (e.2.2.2.1 : Int) ∧ pm_ct N (P + 9) = pm_upd (pm_ct M (P + 9)) q (e.2.2.2.2.1 : Int) ∧ pm_ct N (P + 10) = pm_upd (pm_ct M (P + 10)) q (e.2.2.2.2.2 : Int)
def R6 (M : pm_M) (P k : Nat) (e : Dt) : Prop := pm_ct M (P + 5) k = (e.1 : Int) ∧ pm_ct M (P + 6) k = (e.2.1 : Int) ∧ pm_ct M (P + 7) k = (e.2.2.1 : Int) ∧ pm_ct M (P + 8) k = (e.2.2.2.1 : Int) ∧ pm_ct M (P + 9) k = (e.2.2.2.2.1 : Int) ∧ pm_ct M (P + 10) k = (e.2.2.2.2.2 : Int)
theorem R6.ne {M N : pm_M} {P q k : Nat} {e e' : Dt} (h : R6 M P k e) (u : U6 M N P q e') (hn : k ≠ q) : R6 N P k e := by
  unfold R6 at h ⊢
  rw [u.1, u.2.1, u.2.2.1, u.2.2.2.1, u.2.2.2.2.1, u.2.2.2.2.2, pm_upd_ne hn, pm_upd_ne hn, pm_upd_ne hn, pm_upd_ne hn, pm_upd_ne hn, pm_upd_ne hn]
  exact h
theorem A6.stp {T : Tab} {L : List Nd} {p dp : Nat → Nat} (hD : TrD L dp) (hp : PaOK L p) {i q P : Nat} (hi : i < L.length) (h0 : (ndA L i).1 ≠ 0) (hq : q = (ndA L i).2.2.toNat) {M N K : pm_M} (h : A6 M P T L p i) (u1 : U6 M N P (i + 1) (dStp T (ndA L i).1 (ndA L i).2.1 true (CM T L p i))) (u2 : U6 N K P q (dStp T (ndA L i).1 (ndA L i).2.1 false (CM T L p i))) : A6 K P T L p (i + 1) :=
  ⟨atc_stp hD hp hi h0 hq h.1 u1.1 u2.1, atc_stp hD hp hi h0 hq h.2.1 u1.2.1 u2.2.1, atc_stp hD hp hi h0 hq h.2.2.1 u1.2.2.1 u2.2.2.1, atc_stp hD hp hi h0 hq h.2.2.2.1 u1.2.2.2.1 u2.2.2.2.1, atc_stp hD hp hi h0 hq h.2.2.2.2.1 u1.2.2.2.2.1 u2.2.2.2.2.1, atc_stp hD hp hi h0 hq h.2.2.2.2.2 u1.2.2.2.2.2 u2.2.2.2.2.2⟩
theorem A6.leaf {T : Tab} {L : List Nd} {p : Nat → Nat} (hp : PaOK L p) {i P : Nat} (h0 : (ndA L i).1 = 0) {M : pm_M} (h : A6 M P T L p i) : A6 M P T L p (i + 1) :=
  ⟨atc_leaf hp h0 h.1, atc_leaf hp h0 h.2.1, atc_leaf hp h0 h.2.2.1, atc_leaf hp h0 h.2.2.2.1, atc_leaf hp h0 h.2.2.2.2.1, atc_leaf hp h0 h.2.2.2.2.2⟩
theorem A6.at {T : Tab} {L : List Nd} {p : Nat → Nat} (hp : PaOK L p) {i P : Nat} (hi : i < L.length) {M : pm_M} (h : A6 M P T L p i) : R6 M P i (CM T L p i) :=
  ⟨atc_at hp hi h.1, atc_at hp hi h.2.1, atc_at hp hi h.2.2.1, atc_at hp hi h.2.2.2.1, atc_at hp hi h.2.2.2.2.1, atc_at hp hi h.2.2.2.2.2⟩
set_option maxHeartbeats 4000000 in
theorem c_Told_handDown0 {d mc ms : Nat} {M : pm_M} (lay0 : Lay M) {T : Tab} (hT : TabOK T) (hM : TbAt M 24 T) {l x s k q : Nat} {b : Bool} {z : Int} {e : Dt} (hct : pm_ct M 55 3 = (l : Int)) (l31 : l ≤ 31) (hkq : k < q) (hql : q < l) (hx : pm_ct M 56 k = (x : Int)) (x12 : x = 1 ∨ x = 2) (hz : ∀ a : Nat, a < 64 → pm_and (a : Int) z = ((ctS b a s : Nat) : Int)) (he : R6 M 54 k e) (e1 : e.1 < 64) (e2 : e.2.1 < 64) (e6 : e.2.2.2.2.2 ≤ 2) :
    pm_E (d + 1) 100 [(2, ((54 : Nat) : Int)), (0, (k : Int)), (0, (q : Int)), (0, z), (2, ((24 : Nat) : Int))] M mc ms (fun ρ M' => ρ = none ∧ Lay M' ∧ Fr [59, 60, 61, 62, 63, 64] M M' ∧ U6 M M' 54 q (dStp T x s b e)) := by
  obtain ⟨r1, r2, r3, r4, r5, r6⟩ := he
  have z1 := hz _ e1
  have z2 := hz _ e2
  obtain ⟨_, _, m3, m4, _⟩ := id hM
  have tt : tu e.2.2.2.2.2 x = if e.2.2.2.2.2 = 0 then 0 else if e.2.2.2.2.2 = x then 0 else 1 := rfl
  obtain ⟨y, hy⟩ : ∃ y, y = e.2.2.2.2.2 := ⟨_, rfl⟩
  rw [← hy] at e6 r6 tt
  have fin : ∀ (N : pm_M) (u5 u6 u7 u8 u9 u10 : Int), N = Mu [(59, pm_upd (pm_ct M 59) q u5), (60, pm_upd (pm_ct M 60) q u6), (61, pm_upd (pm_ct M 61) q u7), (62, pm_upd (pm_ct M 62) q u8), (63, pm_upd (pm_ct M 63) q u9), (64, pm_upd (pm_ct M 64) q u10)] M → Lay N → u5 = ((dStp T x s b e).1 : Int) → u6 = ((dStp T x s b e).2.1 : Int) → u7 = ((e.2.2.1 + 1 : Nat) : Int) → u8 = ((e.2.2.2.1 + prK T x : Nat) : Int) → u9 = ((e.2.2.2.2.1 + tu e.2.2.2.2.2 x : Nat) : Int) → u10 = (x : Int) → ((none : Option pm_V) = none ∧ Lay N ∧ Fr [59, 60, 61, 62, 63, 64] M N ∧ U6 M N 54 q (dStp T x s b e)) := by
    intro N u5 u6 u7 u8 u9 u10 hN lN a1 a2 a3 a4 a5 a6
    rw [hN] at lN ⊢
    refine ⟨rfl, lN, Fr.mu _ _ rfl, ?_, ?_, ?_, ?_, ?_, ?_⟩
    · rw [Mu_ct, ← a1]; rfl
    · rw [Mu_ct, ← a2]; rfl
    · rw [Mu_ct, show ((dStp T x s b e).2.2.1 : Int) = u7 from a3.symm]; rfl
    · rw [Mu_ct, show ((dStp T x s b e).2.2.2.1 : Int) = u8 from a4.symm]; rfl
    · rw [Mu_ct, show ((dStp T x s b e).2.2.2.2.1 : Int) = u9 from a5.symm]; rfl
    · rw [Mu_ct, show ((dStp T x s b e).2.2.2.2.2 : Int) = u10 from a6.symm]; rfl
  show Wp (d + 1) 100 0 [(2, ((54 : Nat) : Int)), (0, (k : Int)), (0, (q : Int)), (0, z), (2, ((24 : Nat) : Int)), (9, 0), (9, 0)] [] M mc ms _
  rcases x12 with hx1 | hx1
  · rw [hx1] at hx tt fin ⊢
    have hx' : pm_ct M 56 k = 1 := hx
    have d1 : (dStp T 1 s b e).1 = ctS b e.1 s := rfl
    have d2 : (dStp T 1 s b e).2.1 = e.2.1 := rfl
    have p1 : prK T 1 = tA T := rfl
    rw [← hy, tt] at fin
    refine g_iload_n lk_100_0 rfl ?_
    refine g_iload_n lk_100_1 rfl ?_
    refine g_icmp (t := 16) lk_100_2 rfl (by first | (unfold pm_inI; omega) | exact pm_and_in _ _ | exact pm_shr_in _ _ | exact pm_or_in _ _ | exact pm_xor_in _ _ | exact pm_shl_in _ _ | exact pm_cmp_in _ _ | exact pm_b8_in _ | (unfold pm_inI; split <;> omega)) (by first | (unfold pm_inI; omega) | exact pm_and_in _ _ | exact pm_shr_in _ _ | exact pm_or_in _ _ | exact pm_xor_in _ _ | exact pm_shl_in _ _ | exact pm_cmp_in _ _ | exact pm_b8_in _ | (unfold pm_inI; split <;> omega)) (fun h1 => ?_) (fun h1 => ?_)
    · replace h1 : (q : Int) ≤ (k : Int) := h1
      omega
    · replace h1 : ¬ ((q : Int) ≤ (k : Int)) := h1
      refine g_iload_n lk_100_5 rfl ?_
      refine g_aload_n lk_100_6 rfl ?_
      refine g_getfield lk_100_7 rfl (lay0.on (by decide) rfl) (v := ((55 : Nat) : Int)) (lay0.rf rfl) ?_
      refine m_getfield (u := []) (M := M) lk_100_10 rfl (lay0.on (by decide) rfl) (v := (l : Int)) hct ?_
      refine g_icmp (t := 17) lk_100_13 rfl (by first | (unfold pm_inI; omega) | exact pm_and_in _ _ | exact pm_shr_in _ _ | exact pm_or_in _ _ | exact pm_xor_in _ _ | exact pm_shl_in _ _ | exact pm_cmp_in _ _ | exact pm_b8_in _ | (unfold pm_inI; split <;> omega)) (by first | (unfold pm_inI; omega) | exact pm_and_in _ _ | exact pm_shr_in _ _ | exact pm_or_in _ _ | exact pm_xor_in _ _ | exact pm_shl_in _ _ | exact pm_cmp_in _ _ | exact pm_b8_in _ | (unfold pm_inI; split <;> omega)) (fun h2 => ?_) (fun h2 => ?_)
      · replace h2 : (q : Int) < (l : Int) := h2
        refine g_aload_n lk_100_17 rfl ?_
        refine g_getfield lk_100_18 rfl (lay0.on (by decide) rfl) (v := ((55 : Nat) : Int)) (lay0.rf rfl) ?_
        refine g_getfield lk_100_21 rfl (lay0.on (by decide) rfl) (v := ((56 : Nat) : Int)) (lay0.rf rfl) ?_
        refine g_iload_n lk_100_24 rfl ?_
        refine m_iaload (u := []) (M := M) lk_100_25 (lay0.ay (by decide) rfl) (by omega) (j := k) (by omega) (v := 1) hx' ?_
        refine g_iconst lk_100_26 ?_
        refine g_icmp (t := 34) lk_100_27 rfl (by first | (unfold pm_inI; omega) | exact pm_and_in _ _ | exact pm_shr_in _ _ | exact pm_or_in _ _ | exact pm_xor_in _ _ | exact pm_shl_in _ _ | exact pm_cmp_in _ _ | exact pm_b8_in _ | (unfold pm_inI; split <;> omega)) (by first | (unfold pm_inI; omega) | exact pm_and_in _ _ | exact pm_shr_in _ _ | exact pm_or_in _ _ | exact pm_xor_in _ _ | exact pm_shl_in _ _ | exact pm_cmp_in _ _ | exact pm_b8_in _ | (unfold pm_inI; split <;> omega)) (fun h => absurd h (show ¬ (¬ (1 : Int) = (1 : Int)) by omega)) (fun _ => ?_)
        refine g_iconst lk_100_30 ?_
        refine g_goto (t := 35) lk_100_31 rfl ?_
        refine g_istore (ls' := [(2, ((54 : Nat) : Int)), (0, (k : Int)), (0, (q : Int)), (0, z), (2, ((24 : Nat) : Int)), (0, 1), (9, 0)]) lk_100_35 rfl rfl ?_
        refine g_aload_n lk_100_37 rfl ?_
        refine g_getfield lk_100_38 rfl (lay0.on (by decide) rfl) (v := ((59 : Nat) : Int)) (lay0.rf rfl) ?_
        refine g_iload_n lk_100_41 rfl ?_
        refine g_iload lk_100_42 rfl ?_
        refine g_if (t := 58) lk_100_44 rfl (by first | (unfold pm_inI; omega) | exact pm_and_in _ _ | exact pm_shr_in _ _ | exact pm_or_in _ _ | exact pm_xor_in _ _ | exact pm_shl_in _ _ | exact pm_cmp_in _ _ | exact pm_b8_in _ | (unfold pm_inI; split <;> omega)) (fun h => absurd h (show ¬ ((1 : Int) = (0 : Int)) by omega)) (fun _ => ?_)
        refine g_aload_n lk_100_47 rfl ?_
        refine g_getfield lk_100_48 rfl (lay0.on (by decide) rfl) (v := ((59 : Nat) : Int)) (lay0.rf rfl) ?_
        refine g_iload_n lk_100_51 rfl ?_
        refine m_iaload (u := []) (M := M) lk_100_52 (lay0.ay (by decide) rfl) (by omega) (j := k) (by omega) (v := (e.1 : Int)) r1 ?_
        refine g_iload_n lk_100_53 rfl ?_
        refine g_iand lk_100_54 ?_
        refine g_goto (t := 64) lk_100_55 rfl ?_
        have lay3 : Lay (Mu [(59, pm_upd (pm_ct M 59) q (pm_and (e.1 : Int) z))] M) := lay0.muA (l := []) (a := 59) (f := pm_upd (pm_ct M 59) q (pm_and (e.1 : Int) z)) rfl rfl
        refine m_iastore (u := []) (u' := [(59, pm_upd (pm_ct M 59) q (pm_and (e.1 : Int) z))]) (M := M) lk_100_64 (lay0.ay (by decide) rfl) (by omega) (j := q) (by omega) rfl ?_
        refine g_aload_n lk_100_65 rfl ?_
        refine g_getfield lk_100_66 rfl (lay3.on (by decide) rfl) (v := ((60 : Nat) : Int)) (lay3.rf rfl) ?_
        refine g_iload_n lk_100_69 rfl ?_
        refine g_iload lk_100_70 rfl ?_
        refine g_if (t := 84) lk_100_72 rfl (by first | (unfold pm_inI; omega) | exact pm_and_in _ _ | exact pm_shr_in _ _ | exact pm_or_in _ _ | exact pm_xor_in _ _ | exact pm_shl_in _ _ | exact pm_cmp_in _ _ | exact pm_b8_in _ | (unfold pm_inI; split <;> omega)) (fun h => absurd h (show ¬ ((1 : Int) = (0 : Int)) by omega)) (fun _ => ?_)
        refine g_aload_n lk_100_75 rfl ?_
        refine g_getfield lk_100_76 rfl (lay3.on (by decide) rfl) (v := ((60 : Nat) : Int)) (lay3.rf rfl) ?_
        refine g_iload_n lk_100_79 rfl ?_
        refine m_iaload (u := [(59, pm_upd (pm_ct M 59) q (pm_and (e.1 : Int) z))]) (M := M) lk_100_80 (lay3.ay (by decide) rfl) (by omega) (j := k) (by omega) (v := (e.2.1 : Int)) r2 ?_
        refine g_goto (t := 92) lk_100_81 rfl ?_
        have lay4 : Lay (Mu [(59, pm_upd (pm_ct M 59) q (pm_and (e.1 : Int) z)), (60, pm_upd (pm_ct M 60) q (e.2.1 : Int))] M) := lay3.muA (l := [(59, pm_upd (pm_ct M 59) q (pm_and (e.1 : Int) z))]) (a := 60) (f := pm_upd (pm_ct M 60) q (e.2.1 : Int)) rfl rfl
        refine m_iastore (u := [(59, pm_upd (pm_ct M 59) q (pm_and (e.1 : Int) z))]) (u' := [(59, pm_upd (pm_ct M 59) q (pm_and (e.1 : Int) z)), (60, pm_upd (pm_ct M 60) q (e.2.1 : Int))]) (M := M) lk_100_92 (lay3.ay (by decide) rfl) (by omega) (j := q) (by omega) rfl ?_
        refine g_aload_n lk_100_93 rfl ?_
        refine g_getfield lk_100_94 rfl (lay4.on (by decide) rfl) (v := ((61 : Nat) : Int)) (lay4.rf rfl) ?_
        refine g_iload_n lk_100_97 rfl ?_
        refine g_aload_n lk_100_98 rfl ?_
        refine g_getfield lk_100_99 rfl (lay4.on (by decide) rfl) (v := ((61 : Nat) : Int)) (lay4.rf rfl) ?_
        refine g_iload_n lk_100_102 rfl ?_
        refine m_iaload (u := [(59, pm_upd (pm_ct M 59) q (pm_and (e.1 : Int) z)), (60, pm_upd (pm_ct M 60) q (e.2.1 : Int))]) (M := M) lk_100_103 (lay4.ay (by decide) rfl) (by omega) (j := k) (by omega) (v := (e.2.2.1 : Int)) r3 ?_
        refine g_iconst lk_100_104 ?_
        refine g_iadd lk_100_105 ?_
        have lay5 : Lay (Mu [(59, pm_upd (pm_ct M 59) q (pm_and (e.1 : Int) z)), (60, pm_upd (pm_ct M 60) q (e.2.1 : Int)), (61, pm_upd (pm_ct M 61) q ((e.2.2.1 : Int) + 1))] M) := lay4.muA (l := [(59, pm_upd (pm_ct M 59) q (pm_and (e.1 : Int) z)), (60, pm_upd (pm_ct M 60) q (e.2.1 : Int))]) (a := 61) (f := pm_upd (pm_ct M 61) q ((e.2.2.1 : Int) + 1)) rfl rfl
        refine m_iastore (u := [(59, pm_upd (pm_ct M 59) q (pm_and (e.1 : Int) z)), (60, pm_upd (pm_ct M 60) q (e.2.1 : Int))]) (u' := [(59, pm_upd (pm_ct M 59) q (pm_and (e.1 : Int) z)), (60, pm_upd (pm_ct M 60) q (e.2.1 : Int)), (61, pm_upd (pm_ct M 61) q ((e.2.2.1 : Int) + 1))]) (M := M) lk_100_106 (lay4.ay (by decide) rfl) (by omega) (j := q) (by omega) rfl ?_
        refine g_aload_n lk_100_107 rfl ?_
        refine g_getfield lk_100_108 rfl (lay5.on (by decide) rfl) (v := ((62 : Nat) : Int)) (lay5.rf rfl) ?_
        refine g_iload_n lk_100_111 rfl ?_
        refine g_aload_n lk_100_112 rfl ?_
        refine g_getfield lk_100_113 rfl (lay5.on (by decide) rfl) (v := ((62 : Nat) : Int)) (lay5.rf rfl) ?_
        refine g_iload_n lk_100_116 rfl ?_
        refine m_iaload (u := [(59, pm_upd (pm_ct M 59) q (pm_and (e.1 : Int) z)), (60, pm_upd (pm_ct M 60) q (e.2.1 : Int)), (61, pm_upd (pm_ct M 61) q ((e.2.2.1 : Int) + 1))]) (M := M) lk_100_117 (lay5.ay (by decide) rfl) (by omega) (j := k) (by omega) (v := (e.2.2.2.1 : Int)) r4 ?_
        refine g_iload lk_100_118 rfl ?_
        refine g_if (t := 131) lk_100_120 rfl (by first | (unfold pm_inI; omega) | exact pm_and_in _ _ | exact pm_shr_in _ _ | exact pm_or_in _ _ | exact pm_xor_in _ _ | exact pm_shl_in _ _ | exact pm_cmp_in _ _ | exact pm_b8_in _ | (unfold pm_inI; split <;> omega)) (fun h => absurd h (show ¬ ((1 : Int) = (0 : Int)) by omega)) (fun _ => ?_)
        refine g_aload lk_100_123 rfl ?_
        refine m_getfield (u := [(59, pm_upd (pm_ct M 59) q (pm_and (e.1 : Int) z)), (60, pm_upd (pm_ct M 60) q (e.2.1 : Int)), (61, pm_upd (pm_ct M 61) q ((e.2.2.1 : Int) + 1))]) (M := M) lk_100_125 rfl (lay5.on (by decide) rfl) (v := (tA T : Int)) m3 ?_
        refine g_goto (t := 136) lk_100_128 rfl ?_
        refine g_iadd lk_100_136 ?_
        have lay6 : Lay (Mu [(59, pm_upd (pm_ct M 59) q (pm_and (e.1 : Int) z)), (60, pm_upd (pm_ct M 60) q (e.2.1 : Int)), (61, pm_upd (pm_ct M 61) q ((e.2.2.1 : Int) + 1)), (62, pm_upd (pm_ct M 62) q ((e.2.2.2.1 : Int) + (tA T : Int)))] M) := lay5.muA (l := [(59, pm_upd (pm_ct M 59) q (pm_and (e.1 : Int) z)), (60, pm_upd (pm_ct M 60) q (e.2.1 : Int)), (61, pm_upd (pm_ct M 61) q ((e.2.2.1 : Int) + 1))]) (a := 62) (f := pm_upd (pm_ct M 62) q ((e.2.2.2.1 : Int) + (tA T : Int))) rfl rfl
        refine m_iastore (u := [(59, pm_upd (pm_ct M 59) q (pm_and (e.1 : Int) z)), (60, pm_upd (pm_ct M 60) q (e.2.1 : Int)), (61, pm_upd (pm_ct M 61) q ((e.2.2.1 : Int) + 1))]) (u' := [(59, pm_upd (pm_ct M 59) q (pm_and (e.1 : Int) z)), (60, pm_upd (pm_ct M 60) q (e.2.1 : Int)), (61, pm_upd (pm_ct M 61) q ((e.2.2.1 : Int) + 1)), (62, pm_upd (pm_ct M 62) q ((e.2.2.2.1 : Int) + (tA T : Int)))]) (M := M) lk_100_137 (lay5.ay (by decide) rfl) (by omega) (j := q) (by omega) rfl ?_
        refine g_aload_n lk_100_138 rfl ?_
        refine g_getfield lk_100_139 rfl (lay6.on (by decide) rfl) (v := ((64 : Nat) : Int)) (lay6.rf rfl) ?_
        refine g_iload_n lk_100_142 rfl ?_
        refine m_iaload (u := [(59, pm_upd (pm_ct M 59) q (pm_and (e.1 : Int) z)), (60, pm_upd (pm_ct M 60) q (e.2.1 : Int)), (61, pm_upd (pm_ct M 61) q ((e.2.2.1 : Int) + 1)), (62, pm_upd (pm_ct M 62) q ((e.2.2.2.1 : Int) + (tA T : Int)))]) (M := M) lk_100_143 (lay6.ay (by decide) rfl) (by omega) (j := k) (by omega) (v := (y : Int)) r6 ?_
        refine g_if (t := 169) lk_100_144 rfl (by first | (unfold pm_inI; omega) | exact pm_and_in _ _ | exact pm_shr_in _ _ | exact pm_or_in _ _ | exact pm_xor_in _ _ | exact pm_shl_in _ _ | exact pm_cmp_in _ _ | exact pm_b8_in _ | (unfold pm_inI; split <;> omega)) (fun h7 => ?_) (fun h7 => ?_)
        · replace h7 : (y : Int) = 0 := h7
          refine g_iconst lk_100_169 ?_
          refine g_istore (ls' := [(2, ((54 : Nat) : Int)), (0, (k : Int)), (0, (q : Int)), (0, z), (2, ((24 : Nat) : Int)), (0, 1), (0, 0)]) lk_100_170 rfl rfl ?_
          refine g_aload_n lk_100_172 rfl ?_
          refine g_getfield lk_100_173 rfl (lay6.on (by decide) rfl) (v := ((63 : Nat) : Int)) (lay6.rf rfl) ?_
          refine g_iload_n lk_100_176 rfl ?_
          refine g_aload_n lk_100_177 rfl ?_
          refine g_getfield lk_100_178 rfl (lay6.on (by decide) rfl) (v := ((63 : Nat) : Int)) (lay6.rf rfl) ?_
          refine g_iload_n lk_100_181 rfl ?_
          refine m_iaload (u := [(59, pm_upd (pm_ct M 59) q (pm_and (e.1 : Int) z)), (60, pm_upd (pm_ct M 60) q (e.2.1 : Int)), (61, pm_upd (pm_ct M 61) q ((e.2.2.1 : Int) + 1)), (62, pm_upd (pm_ct M 62) q ((e.2.2.2.1 : Int) + (tA T : Int)))]) (M := M) lk_100_182 (lay6.ay (by decide) rfl) (by omega) (j := k) (by omega) (v := (e.2.2.2.2.1 : Int)) r5 ?_
          refine g_iload lk_100_183 rfl ?_
          refine g_if (t := 192) lk_100_185 rfl (by first | (unfold pm_inI; omega) | exact pm_and_in _ _ | exact pm_shr_in _ _ | exact pm_or_in _ _ | exact pm_xor_in _ _ | exact pm_shl_in _ _ | exact pm_cmp_in _ _ | exact pm_b8_in _ | (unfold pm_inI; split <;> omega)) (fun _ => ?_) (fun h => absurd (show (0 : Int) = (0 : Int) by omega) h)
          refine g_iconst lk_100_192 ?_
          refine g_iadd lk_100_193 ?_
          have lay8 : Lay (Mu [(59, pm_upd (pm_ct M 59) q (pm_and (e.1 : Int) z)), (60, pm_upd (pm_ct M 60) q (e.2.1 : Int)), (61, pm_upd (pm_ct M 61) q ((e.2.2.1 : Int) + 1)), (62, pm_upd (pm_ct M 62) q ((e.2.2.2.1 : Int) + (tA T : Int))), (63, pm_upd (pm_ct M 63) q ((e.2.2.2.2.1 : Int) + 0))] M) := lay6.muA (l := [(59, pm_upd (pm_ct M 59) q (pm_and (e.1 : Int) z)), (60, pm_upd (pm_ct M 60) q (e.2.1 : Int)), (61, pm_upd (pm_ct M 61) q ((e.2.2.1 : Int) + 1)), (62, pm_upd (pm_ct M 62) q ((e.2.2.2.1 : Int) + (tA T : Int)))]) (a := 63) (f := pm_upd (pm_ct M 63) q ((e.2.2.2.2.1 : Int) + 0)) rfl rfl
          refine m_iastore (u := [(59, pm_upd (pm_ct M 59) q (pm_and (e.1 : Int) z)), (60, pm_upd (pm_ct M 60) q (e.2.1 : Int)), (61, pm_upd (pm_ct M 61) q ((e.2.2.1 : Int) + 1)), (62, pm_upd (pm_ct M 62) q ((e.2.2.2.1 : Int) + (tA T : Int)))]) (u' := [(59, pm_upd (pm_ct M 59) q (pm_and (e.1 : Int) z)), (60, pm_upd (pm_ct M 60) q (e.2.1 : Int)), (61, pm_upd (pm_ct M 61) q ((e.2.2.1 : Int) + 1)), (62, pm_upd (pm_ct M 62) q ((e.2.2.2.1 : Int) + (tA T : Int))), (63, pm_upd (pm_ct M 63) q ((e.2.2.2.2.1 : Int) + 0))]) (M := M) lk_100_194 (lay6.ay (by decide) rfl) (by omega) (j := q) (by omega) rfl ?_
          refine g_aload_n lk_100_195 rfl ?_
          refine g_getfield lk_100_196 rfl (lay8.on (by decide) rfl) (v := ((64 : Nat) : Int)) (lay8.rf rfl) ?_
          refine g_iload_n lk_100_199 rfl ?_
          refine g_aload_n lk_100_200 rfl ?_
          refine g_getfield lk_100_201 rfl (lay8.on (by decide) rfl) (v := ((55 : Nat) : Int)) (lay8.rf rfl) ?_
          refine g_getfield lk_100_204 rfl (lay8.on (by decide) rfl) (v := ((56 : Nat) : Int)) (lay8.rf rfl) ?_
          refine g_iload_n lk_100_207 rfl ?_
          refine m_iaload (u := [(59, pm_upd (pm_ct M 59) q (pm_and (e.1 : Int) z)), (60, pm_upd (pm_ct M 60) q (e.2.1 : Int)), (61, pm_upd (pm_ct M 61) q ((e.2.2.1 : Int) + 1)), (62, pm_upd (pm_ct M 62) q ((e.2.2.2.1 : Int) + (tA T : Int))), (63, pm_upd (pm_ct M 63) q ((e.2.2.2.2.1 : Int) + 0))]) (M := M) lk_100_208 (lay8.ay (by decide) rfl) (by omega) (j := k) (by omega) (v := 1) hx' ?_
          have lay9 : Lay (Mu [(59, pm_upd (pm_ct M 59) q (pm_and (e.1 : Int) z)), (60, pm_upd (pm_ct M 60) q (e.2.1 : Int)), (61, pm_upd (pm_ct M 61) q ((e.2.2.1 : Int) + 1)), (62, pm_upd (pm_ct M 62) q ((e.2.2.2.1 : Int) + (tA T : Int))), (63, pm_upd (pm_ct M 63) q ((e.2.2.2.2.1 : Int) + 0)), (64, pm_upd (pm_ct M 64) q 1)] M) := lay8.muA (l := [(59, pm_upd (pm_ct M 59) q (pm_and (e.1 : Int) z)), (60, pm_upd (pm_ct M 60) q (e.2.1 : Int)), (61, pm_upd (pm_ct M 61) q ((e.2.2.1 : Int) + 1)), (62, pm_upd (pm_ct M 62) q ((e.2.2.2.1 : Int) + (tA T : Int))), (63, pm_upd (pm_ct M 63) q ((e.2.2.2.2.1 : Int) + 0))]) (a := 64) (f := pm_upd (pm_ct M 64) q 1) rfl rfl
          refine m_iastore (u := [(59, pm_upd (pm_ct M 59) q (pm_and (e.1 : Int) z)), (60, pm_upd (pm_ct M 60) q (e.2.1 : Int)), (61, pm_upd (pm_ct M 61) q ((e.2.2.1 : Int) + 1)), (62, pm_upd (pm_ct M 62) q ((e.2.2.2.1 : Int) + (tA T : Int))), (63, pm_upd (pm_ct M 63) q ((e.2.2.2.2.1 : Int) + 0))]) (u' := [(59, pm_upd (pm_ct M 59) q (pm_and (e.1 : Int) z)), (60, pm_upd (pm_ct M 60) q (e.2.1 : Int)), (61, pm_upd (pm_ct M 61) q ((e.2.2.1 : Int) + 1)), (62, pm_upd (pm_ct M 62) q ((e.2.2.2.1 : Int) + (tA T : Int))), (63, pm_upd (pm_ct M 63) q ((e.2.2.2.2.1 : Int) + 0)), (64, pm_upd (pm_ct M 64) q 1)]) (M := M) lk_100_209 (lay8.ay (by decide) rfl) (by omega) (j := q) (by omega) rfl ?_
          refine g_return lk_100_210 ?_
          exact fin _ _ _ _ _ _ _ rfl lay9 (by rw [z1, d1]) (by rw [d2]) (by omega) (by rw [p1]; omega) (by rw [if_pos (by omega)]; omega) rfl
        · replace h7 : ¬ ((y : Int) = 0) := h7
          refine g_aload_n lk_100_147 rfl ?_
          refine g_getfield lk_100_148 rfl (lay6.on (by decide) rfl) (v := ((64 : Nat) : Int)) (lay6.rf rfl) ?_
          refine g_iload_n lk_100_151 rfl ?_
          refine m_iaload (u := [(59, pm_upd (pm_ct M 59) q (pm_and (e.1 : Int) z)), (60, pm_upd (pm_ct M 60) q (e.2.1 : Int)), (61, pm_upd (pm_ct M 61) q ((e.2.2.1 : Int) + 1)), (62, pm_upd (pm_ct M 62) q ((e.2.2.2.1 : Int) + (tA T : Int)))]) (M := M) lk_100_152 (lay6.ay (by decide) rfl) (by omega) (j := k) (by omega) (v := (y : Int)) r6 ?_
          refine g_aload_n lk_100_153 rfl ?_
          refine g_getfield lk_100_154 rfl (lay6.on (by decide) rfl) (v := ((55 : Nat) : Int)) (lay6.rf rfl) ?_
          refine g_getfield lk_100_157 rfl (lay6.on (by decide) rfl) (v := ((56 : Nat) : Int)) (lay6.rf rfl) ?_
          refine g_iload_n lk_100_160 rfl ?_
          refine m_iaload (u := [(59, pm_upd (pm_ct M 59) q (pm_and (e.1 : Int) z)), (60, pm_upd (pm_ct M 60) q (e.2.1 : Int)), (61, pm_upd (pm_ct M 61) q ((e.2.2.1 : Int) + 1)), (62, pm_upd (pm_ct M 62) q ((e.2.2.2.1 : Int) + (tA T : Int)))]) (M := M) lk_100_161 (lay6.ay (by decide) rfl) (by omega) (j := k) (by omega) (v := 1) hx' ?_
          refine g_icmp (t := 169) lk_100_162 rfl (by first | (unfold pm_inI; omega) | exact pm_and_in _ _ | exact pm_shr_in _ _ | exact pm_or_in _ _ | exact pm_xor_in _ _ | exact pm_shl_in _ _ | exact pm_cmp_in _ _ | exact pm_b8_in _ | (unfold pm_inI; split <;> omega)) (by first | (unfold pm_inI; omega) | exact pm_and_in _ _ | exact pm_shr_in _ _ | exact pm_or_in _ _ | exact pm_xor_in _ _ | exact pm_shl_in _ _ | exact pm_cmp_in _ _ | exact pm_b8_in _ | (unfold pm_inI; split <;> omega)) (fun h10 => ?_) (fun h10 => ?_)
          · replace h10 : (y : Int) = 1 := h10
            refine g_iconst lk_100_169 ?_
            refine g_istore (ls' := [(2, ((54 : Nat) : Int)), (0, (k : Int)), (0, (q : Int)), (0, z), (2, ((24 : Nat) : Int)), (0, 1), (0, 0)]) lk_100_170 rfl rfl ?_
            refine g_aload_n lk_100_172 rfl ?_
            refine g_getfield lk_100_173 rfl (lay6.on (by decide) rfl) (v := ((63 : Nat) : Int)) (lay6.rf rfl) ?_
            refine g_iload_n lk_100_176 rfl ?_
            refine g_aload_n lk_100_177 rfl ?_
            refine g_getfield lk_100_178 rfl (lay6.on (by decide) rfl) (v := ((63 : Nat) : Int)) (lay6.rf rfl) ?_
            refine g_iload_n lk_100_181 rfl ?_
            refine m_iaload (u := [(59, pm_upd (pm_ct M 59) q (pm_and (e.1 : Int) z)), (60, pm_upd (pm_ct M 60) q (e.2.1 : Int)), (61, pm_upd (pm_ct M 61) q ((e.2.2.1 : Int) + 1)), (62, pm_upd (pm_ct M 62) q ((e.2.2.2.1 : Int) + (tA T : Int)))]) (M := M) lk_100_182 (lay6.ay (by decide) rfl) (by omega) (j := k) (by omega) (v := (e.2.2.2.2.1 : Int)) r5 ?_
            refine g_iload lk_100_183 rfl ?_
            refine g_if (t := 192) lk_100_185 rfl (by first | (unfold pm_inI; omega) | exact pm_and_in _ _ | exact pm_shr_in _ _ | exact pm_or_in _ _ | exact pm_xor_in _ _ | exact pm_shl_in _ _ | exact pm_cmp_in _ _ | exact pm_b8_in _ | (unfold pm_inI; split <;> omega)) (fun _ => ?_) (fun h => absurd (show (0 : Int) = (0 : Int) by omega) h)
            refine g_iconst lk_100_192 ?_
            refine g_iadd lk_100_193 ?_
            have lay11 : Lay (Mu [(59, pm_upd (pm_ct M 59) q (pm_and (e.1 : Int) z)), (60, pm_upd (pm_ct M 60) q (e.2.1 : Int)), (61, pm_upd (pm_ct M 61) q ((e.2.2.1 : Int) + 1)), (62, pm_upd (pm_ct M 62) q ((e.2.2.2.1 : Int) + (tA T : Int))), (63, pm_upd (pm_ct M 63) q ((e.2.2.2.2.1 : Int) + 0))] M) := lay6.muA (l := [(59, pm_upd (pm_ct M 59) q (pm_and (e.1 : Int) z)), (60, pm_upd (pm_ct M 60) q (e.2.1 : Int)), (61, pm_upd (pm_ct M 61) q ((e.2.2.1 : Int) + 1)), (62, pm_upd (pm_ct M 62) q ((e.2.2.2.1 : Int) + (tA T : Int)))]) (a := 63) (f := pm_upd (pm_ct M 63) q ((e.2.2.2.2.1 : Int) + 0)) rfl rfl
            refine m_iastore (u := [(59, pm_upd (pm_ct M 59) q (pm_and (e.1 : Int) z)), (60, pm_upd (pm_ct M 60) q (e.2.1 : Int)), (61, pm_upd (pm_ct M 61) q ((e.2.2.1 : Int) + 1)), (62, pm_upd (pm_ct M 62) q ((e.2.2.2.1 : Int) + (tA T : Int)))]) (u' := [(59, pm_upd (pm_ct M 59) q (pm_and (e.1 : Int) z)), (60, pm_upd (pm_ct M 60) q (e.2.1 : Int)), (61, pm_upd (pm_ct M 61) q ((e.2.2.1 : Int) + 1)), (62, pm_upd (pm_ct M 62) q ((e.2.2.2.1 : Int) + (tA T : Int))), (63, pm_upd (pm_ct M 63) q ((e.2.2.2.2.1 : Int) + 0))]) (M := M) lk_100_194 (lay6.ay (by decide) rfl) (by omega) (j := q) (by omega) rfl ?_
            refine g_aload_n lk_100_195 rfl ?_
            refine g_getfield lk_100_196 rfl (lay11.on (by decide) rfl) (v := ((64 : Nat) : Int)) (lay11.rf rfl) ?_
            refine g_iload_n lk_100_199 rfl ?_
            refine g_aload_n lk_100_200 rfl ?_
            refine g_getfield lk_100_201 rfl (lay11.on (by decide) rfl) (v := ((55 : Nat) : Int)) (lay11.rf rfl) ?_
            refine g_getfield lk_100_204 rfl (lay11.on (by decide) rfl) (v := ((56 : Nat) : Int)) (lay11.rf rfl) ?_
            refine g_iload_n lk_100_207 rfl ?_
            refine m_iaload (u := [(59, pm_upd (pm_ct M 59) q (pm_and (e.1 : Int) z)), (60, pm_upd (pm_ct M 60) q (e.2.1 : Int)), (61, pm_upd (pm_ct M 61) q ((e.2.2.1 : Int) + 1)), (62, pm_upd (pm_ct M 62) q ((e.2.2.2.1 : Int) + (tA T : Int))), (63, pm_upd (pm_ct M 63) q ((e.2.2.2.2.1 : Int) + 0))]) (M := M) lk_100_208 (lay11.ay (by decide) rfl) (by omega) (j := k) (by omega) (v := 1) hx' ?_
            have lay12 : Lay (Mu [(59, pm_upd (pm_ct M 59) q (pm_and (e.1 : Int) z)), (60, pm_upd (pm_ct M 60) q (e.2.1 : Int)), (61, pm_upd (pm_ct M 61) q ((e.2.2.1 : Int) + 1)), (62, pm_upd (pm_ct M 62) q ((e.2.2.2.1 : Int) + (tA T : Int))), (63, pm_upd (pm_ct M 63) q ((e.2.2.2.2.1 : Int) + 0)), (64, pm_upd (pm_ct M 64) q 1)] M) := lay11.muA (l := [(59, pm_upd (pm_ct M 59) q (pm_and (e.1 : Int) z)), (60, pm_upd (pm_ct M 60) q (e.2.1 : Int)), (61, pm_upd (pm_ct M 61) q ((e.2.2.1 : Int) + 1)), (62, pm_upd (pm_ct M 62) q ((e.2.2.2.1 : Int) + (tA T : Int))), (63, pm_upd (pm_ct M 63) q ((e.2.2.2.2.1 : Int) + 0))]) (a := 64) (f := pm_upd (pm_ct M 64) q 1) rfl rfl
            refine m_iastore (u := [(59, pm_upd (pm_ct M 59) q (pm_and (e.1 : Int) z)), (60, pm_upd (pm_ct M 60) q (e.2.1 : Int)), (61, pm_upd (pm_ct M 61) q ((e.2.2.1 : Int) + 1)), (62, pm_upd (pm_ct M 62) q ((e.2.2.2.1 : Int) + (tA T : Int))), (63, pm_upd (pm_ct M 63) q ((e.2.2.2.2.1 : Int) + 0))]) (u' := [(59, pm_upd (pm_ct M 59) q (pm_and (e.1 : Int) z)), (60, pm_upd (pm_ct M 60) q (e.2.1 : Int)), (61, pm_upd (pm_ct M 61) q ((e.2.2.1 : Int) + 1)), (62, pm_upd (pm_ct M 62) q ((e.2.2.2.1 : Int) + (tA T : Int))), (63, pm_upd (pm_ct M 63) q ((e.2.2.2.2.1 : Int) + 0)), (64, pm_upd (pm_ct M 64) q 1)]) (M := M) lk_100_209 (lay11.ay (by decide) rfl) (by omega) (j := q) (by omega) rfl ?_
            refine g_return lk_100_210 ?_
            exact fin _ _ _ _ _ _ _ rfl lay12 (by rw [z1, d1]) (by rw [d2]) (by omega) (by rw [p1]; omega) (by rw [if_neg (by omega), if_pos (by omega)]; omega) rfl
          · replace h10 : ¬ ((y : Int) = 1) := h10
            refine g_iconst lk_100_165 ?_
            refine g_goto (t := 170) lk_100_166 rfl ?_
            refine g_istore (ls' := [(2, ((54 : Nat) : Int)), (0, (k : Int)), (0, (q : Int)), (0, z), (2, ((24 : Nat) : Int)), (0, 1), (0, 1)]) lk_100_170 rfl rfl ?_
            refine g_aload_n lk_100_172 rfl ?_
            refine g_getfield lk_100_173 rfl (lay6.on (by decide) rfl) (v := ((63 : Nat) : Int)) (lay6.rf rfl) ?_
            refine g_iload_n lk_100_176 rfl ?_
            refine g_aload_n lk_100_177 rfl ?_
            refine g_getfield lk_100_178 rfl (lay6.on (by decide) rfl) (v := ((63 : Nat) : Int)) (lay6.rf rfl) ?_
            refine g_iload_n lk_100_181 rfl ?_
            refine m_iaload (u := [(59, pm_upd (pm_ct M 59) q (pm_and (e.1 : Int) z)), (60, pm_upd (pm_ct M 60) q (e.2.1 : Int)), (61, pm_upd (pm_ct M 61) q ((e.2.2.1 : Int) + 1)), (62, pm_upd (pm_ct M 62) q ((e.2.2.2.1 : Int) + (tA T : Int)))]) (M := M) lk_100_182 (lay6.ay (by decide) rfl) (by omega) (j := k) (by omega) (v := (e.2.2.2.2.1 : Int)) r5 ?_
            refine g_iload lk_100_183 rfl ?_
            refine g_if (t := 192) lk_100_185 rfl (by first | (unfold pm_inI; omega) | exact pm_and_in _ _ | exact pm_shr_in _ _ | exact pm_or_in _ _ | exact pm_xor_in _ _ | exact pm_shl_in _ _ | exact pm_cmp_in _ _ | exact pm_b8_in _ | (unfold pm_inI; split <;> omega)) (fun h => absurd h (show ¬ ((1 : Int) = (0 : Int)) by omega)) (fun _ => ?_)
            refine g_iconst lk_100_188 ?_
            refine g_goto (t := 193) lk_100_189 rfl ?_
            refine g_iadd lk_100_193 ?_
            have lay13 : Lay (Mu [(59, pm_upd (pm_ct M 59) q (pm_and (e.1 : Int) z)), (60, pm_upd (pm_ct M 60) q (e.2.1 : Int)), (61, pm_upd (pm_ct M 61) q ((e.2.2.1 : Int) + 1)), (62, pm_upd (pm_ct M 62) q ((e.2.2.2.1 : Int) + (tA T : Int))), (63, pm_upd (pm_ct M 63) q ((e.2.2.2.2.1 : Int) + 1))] M) := lay6.muA (l := [(59, pm_upd (pm_ct M 59) q (pm_and (e.1 : Int) z)), (60, pm_upd (pm_ct M 60) q (e.2.1 : Int)), (61, pm_upd (pm_ct M 61) q ((e.2.2.1 : Int) + 1)), (62, pm_upd (pm_ct M 62) q ((e.2.2.2.1 : Int) + (tA T : Int)))]) (a := 63) (f := pm_upd (pm_ct M 63) q ((e.2.2.2.2.1 : Int) + 1)) rfl rfl
            refine m_iastore (u := [(59, pm_upd (pm_ct M 59) q (pm_and (e.1 : Int) z)), (60, pm_upd (pm_ct M 60) q (e.2.1 : Int)), (61, pm_upd (pm_ct M 61) q ((e.2.2.1 : Int) + 1)), (62, pm_upd (pm_ct M 62) q ((e.2.2.2.1 : Int) + (tA T : Int)))]) (u' := [(59, pm_upd (pm_ct M 59) q (pm_and (e.1 : Int) z)), (60, pm_upd (pm_ct M 60) q (e.2.1 : Int)), (61, pm_upd (pm_ct M 61) q ((e.2.2.1 : Int) + 1)), (62, pm_upd (pm_ct M 62) q ((e.2.2.2.1 : Int) + (tA T : Int))), (63, pm_upd (pm_ct M 63) q ((e.2.2.2.2.1 : Int) + 1))]) (M := M) lk_100_194 (lay6.ay (by decide) rfl) (by omega) (j := q) (by omega) rfl ?_
            refine g_aload_n lk_100_195 rfl ?_
            refine g_getfield lk_100_196 rfl (lay13.on (by decide) rfl) (v := ((64 : Nat) : Int)) (lay13.rf rfl) ?_
            refine g_iload_n lk_100_199 rfl ?_
            refine g_aload_n lk_100_200 rfl ?_
            refine g_getfield lk_100_201 rfl (lay13.on (by decide) rfl) (v := ((55 : Nat) : Int)) (lay13.rf rfl) ?_
            refine g_getfield lk_100_204 rfl (lay13.on (by decide) rfl) (v := ((56 : Nat) : Int)) (lay13.rf rfl) ?_
            refine g_iload_n lk_100_207 rfl ?_
            refine m_iaload (u := [(59, pm_upd (pm_ct M 59) q (pm_and (e.1 : Int) z)), (60, pm_upd (pm_ct M 60) q (e.2.1 : Int)), (61, pm_upd (pm_ct M 61) q ((e.2.2.1 : Int) + 1)), (62, pm_upd (pm_ct M 62) q ((e.2.2.2.1 : Int) + (tA T : Int))), (63, pm_upd (pm_ct M 63) q ((e.2.2.2.2.1 : Int) + 1))]) (M := M) lk_100_208 (lay13.ay (by decide) rfl) (by omega) (j := k) (by omega) (v := 1) hx' ?_
            have lay14 : Lay (Mu [(59, pm_upd (pm_ct M 59) q (pm_and (e.1 : Int) z)), (60, pm_upd (pm_ct M 60) q (e.2.1 : Int)), (61, pm_upd (pm_ct M 61) q ((e.2.2.1 : Int) + 1)), (62, pm_upd (pm_ct M 62) q ((e.2.2.2.1 : Int) + (tA T : Int))), (63, pm_upd (pm_ct M 63) q ((e.2.2.2.2.1 : Int) + 1)), (64, pm_upd (pm_ct M 64) q 1)] M) := lay13.muA (l := [(59, pm_upd (pm_ct M 59) q (pm_and (e.1 : Int) z)), (60, pm_upd (pm_ct M 60) q (e.2.1 : Int)), (61, pm_upd (pm_ct M 61) q ((e.2.2.1 : Int) + 1)), (62, pm_upd (pm_ct M 62) q ((e.2.2.2.1 : Int) + (tA T : Int))), (63, pm_upd (pm_ct M 63) q ((e.2.2.2.2.1 : Int) + 1))]) (a := 64) (f := pm_upd (pm_ct M 64) q 1) rfl rfl
            refine m_iastore (u := [(59, pm_upd (pm_ct M 59) q (pm_and (e.1 : Int) z)), (60, pm_upd (pm_ct M 60) q (e.2.1 : Int)), (61, pm_upd (pm_ct M 61) q ((e.2.2.1 : Int) + 1)), (62, pm_upd (pm_ct M 62) q ((e.2.2.2.1 : Int) + (tA T : Int))), (63, pm_upd (pm_ct M 63) q ((e.2.2.2.2.1 : Int) + 1))]) (u' := [(59, pm_upd (pm_ct M 59) q (pm_and (e.1 : Int) z)), (60, pm_upd (pm_ct M 60) q (e.2.1 : Int)), (61, pm_upd (pm_ct M 61) q ((e.2.2.1 : Int) + 1)), (62, pm_upd (pm_ct M 62) q ((e.2.2.2.1 : Int) + (tA T : Int))), (63, pm_upd (pm_ct M 63) q ((e.2.2.2.2.1 : Int) + 1)), (64, pm_upd (pm_ct M 64) q 1)]) (M := M) lk_100_209 (lay13.ay (by decide) rfl) (by omega) (j := q) (by omega) rfl ?_
            refine g_return lk_100_210 ?_
            exact fin _ _ _ _ _ _ _ rfl lay14 (by rw [z1, d1]) (by rw [d2]) (by omega) (by rw [p1]; omega) (by rw [if_neg (by omega), if_neg (by omega)]; omega) rfl
      · replace h2 : ¬ ((q : Int) < (l : Int)) := h2
        omega
  · rw [hx1] at hx tt fin ⊢
    have hx' : pm_ct M 56 k = 2 := hx
    have d1 : (dStp T 2 s b e).1 = e.1 := rfl
    have d2 : (dStp T 2 s b e).2.1 = ctS b e.2.1 s := rfl
    have p1 : prK T 2 = tB T := rfl
    rw [← hy, tt] at fin
    refine g_iload_n lk_100_0 rfl ?_
    refine g_iload_n lk_100_1 rfl ?_
    refine g_icmp (t := 16) lk_100_2 rfl (by first | (unfold pm_inI; omega) | exact pm_and_in _ _ | exact pm_shr_in _ _ | exact pm_or_in _ _ | exact pm_xor_in _ _ | exact pm_shl_in _ _ | exact pm_cmp_in _ _ | exact pm_b8_in _ | (unfold pm_inI; split <;> omega)) (by first | (unfold pm_inI; omega) | exact pm_and_in _ _ | exact pm_shr_in _ _ | exact pm_or_in _ _ | exact pm_xor_in _ _ | exact pm_shl_in _ _ | exact pm_cmp_in _ _ | exact pm_b8_in _ | (unfold pm_inI; split <;> omega)) (fun h1 => ?_) (fun h1 => ?_)
    · replace h1 : (q : Int) ≤ (k : Int) := h1
      omega
    · replace h1 : ¬ ((q : Int) ≤ (k : Int)) := h1
      refine g_iload_n lk_100_5 rfl ?_
      refine g_aload_n lk_100_6 rfl ?_
      refine g_getfield lk_100_7 rfl (lay0.on (by decide) rfl) (v := ((55 : Nat) : Int)) (lay0.rf rfl) ?_
      refine m_getfield (u := []) (M := M) lk_100_10 rfl (lay0.on (by decide) rfl) (v := (l : Int)) hct ?_
      refine g_icmp (t := 17) lk_100_13 rfl (by first | (unfold pm_inI; omega) | exact pm_and_in _ _ | exact pm_shr_in _ _ | exact pm_or_in _ _ | exact pm_xor_in _ _ | exact pm_shl_in _ _ | exact pm_cmp_in _ _ | exact pm_b8_in _ | (unfold pm_inI; split <;> omega)) (by first | (unfold pm_inI; omega) | exact pm_and_in _ _ | exact pm_shr_in _ _ | exact pm_or_in _ _ | exact pm_xor_in _ _ | exact pm_shl_in _ _ | exact pm_cmp_in _ _ | exact pm_b8_in _ | (unfold pm_inI; split <;> omega)) (fun h2 => ?_) (fun h2 => ?_)
      · replace h2 : (q : Int) < (l : Int) := h2
        refine g_aload_n lk_100_17 rfl ?_
        refine g_getfield lk_100_18 rfl (lay0.on (by decide) rfl) (v := ((55 : Nat) : Int)) (lay0.rf rfl) ?_
        refine g_getfield lk_100_21 rfl (lay0.on (by decide) rfl) (v := ((56 : Nat) : Int)) (lay0.rf rfl) ?_
        refine g_iload_n lk_100_24 rfl ?_
        refine m_iaload (u := []) (M := M) lk_100_25 (lay0.ay (by decide) rfl) (by omega) (j := k) (by omega) (v := 2) hx' ?_
        refine g_iconst lk_100_26 ?_
        refine g_icmp (t := 34) lk_100_27 rfl (by first | (unfold pm_inI; omega) | exact pm_and_in _ _ | exact pm_shr_in _ _ | exact pm_or_in _ _ | exact pm_xor_in _ _ | exact pm_shl_in _ _ | exact pm_cmp_in _ _ | exact pm_b8_in _ | (unfold pm_inI; split <;> omega)) (by first | (unfold pm_inI; omega) | exact pm_and_in _ _ | exact pm_shr_in _ _ | exact pm_or_in _ _ | exact pm_xor_in _ _ | exact pm_shl_in _ _ | exact pm_cmp_in _ _ | exact pm_b8_in _ | (unfold pm_inI; split <;> omega)) (fun _ => ?_) (fun h => absurd (show ¬ (2 : Int) = (1 : Int) by omega) h)
        refine g_iconst lk_100_34 ?_
        refine g_istore (ls' := [(2, ((54 : Nat) : Int)), (0, (k : Int)), (0, (q : Int)), (0, z), (2, ((24 : Nat) : Int)), (0, 0), (9, 0)]) lk_100_35 rfl rfl ?_
        refine g_aload_n lk_100_37 rfl ?_
        refine g_getfield lk_100_38 rfl (lay0.on (by decide) rfl) (v := ((59 : Nat) : Int)) (lay0.rf rfl) ?_
        refine g_iload_n lk_100_41 rfl ?_
        refine g_iload lk_100_42 rfl ?_
        refine g_if (t := 58) lk_100_44 rfl (by first | (unfold pm_inI; omega) | exact pm_and_in _ _ | exact pm_shr_in _ _ | exact pm_or_in _ _ | exact pm_xor_in _ _ | exact pm_shl_in _ _ | exact pm_cmp_in _ _ | exact pm_b8_in _ | (unfold pm_inI; split <;> omega)) (fun _ => ?_) (fun h => absurd (show (0 : Int) = (0 : Int) by omega) h)
        refine g_aload_n lk_100_58 rfl ?_
        refine g_getfield lk_100_59 rfl (lay0.on (by decide) rfl) (v := ((59 : Nat) : Int)) (lay0.rf rfl) ?_
        refine g_iload_n lk_100_62 rfl ?_
        refine m_iaload (u := []) (M := M) lk_100_63 (lay0.ay (by decide) rfl) (by omega) (j := k) (by omega) (v := (e.1 : Int)) r1 ?_
        have lay3 : Lay (Mu [(59, pm_upd (pm_ct M 59) q (e.1 : Int))] M) := lay0.muA (l := []) (a := 59) (f := pm_upd (pm_ct M 59) q (e.1 : Int)) rfl rfl
        refine m_iastore (u := []) (u' := [(59, pm_upd (pm_ct M 59) q (e.1 : Int))]) (M := M) lk_100_64 (lay0.ay (by decide) rfl) (by omega) (j := q) (by omega) rfl ?_
        refine g_aload_n lk_100_65 rfl ?_
        refine g_getfield lk_100_66 rfl (lay3.on (by decide) rfl) (v := ((60 : Nat) : Int)) (lay3.rf rfl) ?_
        refine g_iload_n lk_100_69 rfl ?_
        refine g_iload lk_100_70 rfl ?_
        refine g_if (t := 84) lk_100_72 rfl (by first | (unfold pm_inI; omega) | exact pm_and_in _ _ | exact pm_shr_in _ _ | exact pm_or_in _ _ | exact pm_xor_in _ _ | exact pm_shl_in _ _ | exact pm_cmp_in _ _ | exact pm_b8_in _ | (unfold pm_inI; split <;> omega)) (fun _ => ?_) (fun h => absurd (show (0 : Int) = (0 : Int) by omega) h)
        refine g_aload_n lk_100_84 rfl ?_
        refine g_getfield lk_100_85 rfl (lay3.on (by decide) rfl) (v := ((60 : Nat) : Int)) (lay3.rf rfl) ?_
        refine g_iload_n lk_100_88 rfl ?_
        refine m_iaload (u := [(59, pm_upd (pm_ct M 59) q (e.1 : Int))]) (M := M) lk_100_89 (lay3.ay (by decide) rfl) (by omega) (j := k) (by omega) (v := (e.2.1 : Int)) r2 ?_
        refine g_iload_n lk_100_90 rfl ?_
        refine g_iand lk_100_91 ?_
        have lay4 : Lay (Mu [(59, pm_upd (pm_ct M 59) q (e.1 : Int)), (60, pm_upd (pm_ct M 60) q (pm_and (e.2.1 : Int) z))] M) := lay3.muA (l := [(59, pm_upd (pm_ct M 59) q (e.1 : Int))]) (a := 60) (f := pm_upd (pm_ct M 60) q (pm_and (e.2.1 : Int) z)) rfl rfl
        refine m_iastore (u := [(59, pm_upd (pm_ct M 59) q (e.1 : Int))]) (u' := [(59, pm_upd (pm_ct M 59) q (e.1 : Int)), (60, pm_upd (pm_ct M 60) q (pm_and (e.2.1 : Int) z))]) (M := M) lk_100_92 (lay3.ay (by decide) rfl) (by omega) (j := q) (by omega) rfl ?_
        refine g_aload_n lk_100_93 rfl ?_
        refine g_getfield lk_100_94 rfl (lay4.on (by decide) rfl) (v := ((61 : Nat) : Int)) (lay4.rf rfl) ?_
        refine g_iload_n lk_100_97 rfl ?_
        refine g_aload_n lk_100_98 rfl ?_
        refine g_getfield lk_100_99 rfl (lay4.on (by decide) rfl) (v := ((61 : Nat) : Int)) (lay4.rf rfl) ?_
        refine g_iload_n lk_100_102 rfl ?_
        refine m_iaload (u := [(59, pm_upd (pm_ct M 59) q (e.1 : Int)), (60, pm_upd (pm_ct M 60) q (pm_and (e.2.1 : Int) z))]) (M := M) lk_100_103 (lay4.ay (by decide) rfl) (by omega) (j := k) (by omega) (v := (e.2.2.1 : Int)) r3 ?_
        refine g_iconst lk_100_104 ?_
        refine g_iadd lk_100_105 ?_
        have lay5 : Lay (Mu [(59, pm_upd (pm_ct M 59) q (e.1 : Int)), (60, pm_upd (pm_ct M 60) q (pm_and (e.2.1 : Int) z)), (61, pm_upd (pm_ct M 61) q ((e.2.2.1 : Int) + 1))] M) := lay4.muA (l := [(59, pm_upd (pm_ct M 59) q (e.1 : Int)), (60, pm_upd (pm_ct M 60) q (pm_and (e.2.1 : Int) z))]) (a := 61) (f := pm_upd (pm_ct M 61) q ((e.2.2.1 : Int) + 1)) rfl rfl
        refine m_iastore (u := [(59, pm_upd (pm_ct M 59) q (e.1 : Int)), (60, pm_upd (pm_ct M 60) q (pm_and (e.2.1 : Int) z))]) (u' := [(59, pm_upd (pm_ct M 59) q (e.1 : Int)), (60, pm_upd (pm_ct M 60) q (pm_and (e.2.1 : Int) z)), (61, pm_upd (pm_ct M 61) q ((e.2.2.1 : Int) + 1))]) (M := M) lk_100_106 (lay4.ay (by decide) rfl) (by omega) (j := q) (by omega) rfl ?_
        refine g_aload_n lk_100_107 rfl ?_
        refine g_getfield lk_100_108 rfl (lay5.on (by decide) rfl) (v := ((62 : Nat) : Int)) (lay5.rf rfl) ?_
        refine g_iload_n lk_100_111 rfl ?_
        refine g_aload_n lk_100_112 rfl ?_
        refine g_getfield lk_100_113 rfl (lay5.on (by decide) rfl) (v := ((62 : Nat) : Int)) (lay5.rf rfl) ?_
        refine g_iload_n lk_100_116 rfl ?_
        refine m_iaload (u := [(59, pm_upd (pm_ct M 59) q (e.1 : Int)), (60, pm_upd (pm_ct M 60) q (pm_and (e.2.1 : Int) z)), (61, pm_upd (pm_ct M 61) q ((e.2.2.1 : Int) + 1))]) (M := M) lk_100_117 (lay5.ay (by decide) rfl) (by omega) (j := k) (by omega) (v := (e.2.2.2.1 : Int)) r4 ?_
        refine g_iload lk_100_118 rfl ?_
        refine g_if (t := 131) lk_100_120 rfl (by first | (unfold pm_inI; omega) | exact pm_and_in _ _ | exact pm_shr_in _ _ | exact pm_or_in _ _ | exact pm_xor_in _ _ | exact pm_shl_in _ _ | exact pm_cmp_in _ _ | exact pm_b8_in _ | (unfold pm_inI; split <;> omega)) (fun _ => ?_) (fun h => absurd (show (0 : Int) = (0 : Int) by omega) h)
        refine g_aload lk_100_131 rfl ?_
        refine m_getfield (u := [(59, pm_upd (pm_ct M 59) q (e.1 : Int)), (60, pm_upd (pm_ct M 60) q (pm_and (e.2.1 : Int) z)), (61, pm_upd (pm_ct M 61) q ((e.2.2.1 : Int) + 1))]) (M := M) lk_100_133 rfl (lay5.on (by decide) rfl) (v := (tB T : Int)) m4 ?_
        refine g_iadd lk_100_136 ?_
        have lay6 : Lay (Mu [(59, pm_upd (pm_ct M 59) q (e.1 : Int)), (60, pm_upd (pm_ct M 60) q (pm_and (e.2.1 : Int) z)), (61, pm_upd (pm_ct M 61) q ((e.2.2.1 : Int) + 1)), (62, pm_upd (pm_ct M 62) q ((e.2.2.2.1 : Int) + (tB T : Int)))] M) := lay5.muA (l := [(59, pm_upd (pm_ct M 59) q (e.1 : Int)), (60, pm_upd (pm_ct M 60) q (pm_and (e.2.1 : Int) z)), (61, pm_upd (pm_ct M 61) q ((e.2.2.1 : Int) + 1))]) (a := 62) (f := pm_upd (pm_ct M 62) q ((e.2.2.2.1 : Int) + (tB T : Int))) rfl rfl
        refine m_iastore (u := [(59, pm_upd (pm_ct M 59) q (e.1 : Int)), (60, pm_upd (pm_ct M 60) q (pm_and (e.2.1 : Int) z)), (61, pm_upd (pm_ct M 61) q ((e.2.2.1 : Int) + 1))]) (u' := [(59, pm_upd (pm_ct M 59) q (e.1 : Int)), (60, pm_upd (pm_ct M 60) q (pm_and (e.2.1 : Int) z)), (61, pm_upd (pm_ct M 61) q ((e.2.2.1 : Int) + 1)), (62, pm_upd (pm_ct M 62) q ((e.2.2.2.1 : Int) + (tB T : Int)))]) (M := M) lk_100_137 (lay5.ay (by decide) rfl) (by omega) (j := q) (by omega) rfl ?_
        refine g_aload_n lk_100_138 rfl ?_
        refine g_getfield lk_100_139 rfl (lay6.on (by decide) rfl) (v := ((64 : Nat) : Int)) (lay6.rf rfl) ?_
        refine g_iload_n lk_100_142 rfl ?_
        refine m_iaload (u := [(59, pm_upd (pm_ct M 59) q (e.1 : Int)), (60, pm_upd (pm_ct M 60) q (pm_and (e.2.1 : Int) z)), (61, pm_upd (pm_ct M 61) q ((e.2.2.1 : Int) + 1)), (62, pm_upd (pm_ct M 62) q ((e.2.2.2.1 : Int) + (tB T : Int)))]) (M := M) lk_100_143 (lay6.ay (by decide) rfl) (by omega) (j := k) (by omega) (v := (y : Int)) r6 ?_
        refine g_if (t := 169) lk_100_144 rfl (by first | (unfold pm_inI; omega) | exact pm_and_in _ _ | exact pm_shr_in _ _ | exact pm_or_in _ _ | exact pm_xor_in _ _ | exact pm_shl_in _ _ | exact pm_cmp_in _ _ | exact pm_b8_in _ | (unfold pm_inI; split <;> omega)) (fun h7 => ?_) (fun h7 => ?_)
        · replace h7 : (y : Int) = 0 := h7
          refine g_iconst lk_100_169 ?_
          refine g_istore (ls' := [(2, ((54 : Nat) : Int)), (0, (k : Int)), (0, (q : Int)), (0, z), (2, ((24 : Nat) : Int)), (0, 0), (0, 0)]) lk_100_170 rfl rfl ?_
          refine g_aload_n lk_100_172 rfl ?_
          refine g_getfield lk_100_173 rfl (lay6.on (by decide) rfl) (v := ((63 : Nat) : Int)) (lay6.rf rfl) ?_
          refine g_iload_n lk_100_176 rfl ?_
          refine g_aload_n lk_100_177 rfl ?_
          refine g_getfield lk_100_178 rfl (lay6.on (by decide) rfl) (v := ((63 : Nat) : Int)) (lay6.rf rfl) ?_
          refine g_iload_n lk_100_181 rfl ?_
          refine m_iaload (u := [(59, pm_upd (pm_ct M 59) q (e.1 : Int)), (60, pm_upd (pm_ct M 60) q (pm_and (e.2.1 : Int) z)), (61, pm_upd (pm_ct M 61) q ((e.2.2.1 : Int) + 1)), (62, pm_upd (pm_ct M 62) q ((e.2.2.2.1 : Int) + (tB T : Int)))]) (M := M) lk_100_182 (lay6.ay (by decide) rfl) (by omega) (j := k) (by omega) (v := (e.2.2.2.2.1 : Int)) r5 ?_
          refine g_iload lk_100_183 rfl ?_
          refine g_if (t := 192) lk_100_185 rfl (by first | (unfold pm_inI; omega) | exact pm_and_in _ _ | exact pm_shr_in _ _ | exact pm_or_in _ _ | exact pm_xor_in _ _ | exact pm_shl_in _ _ | exact pm_cmp_in _ _ | exact pm_b8_in _ | (unfold pm_inI; split <;> omega)) (fun _ => ?_) (fun h => absurd (show (0 : Int) = (0 : Int) by omega) h)
          refine g_iconst lk_100_192 ?_
          refine g_iadd lk_100_193 ?_
          have lay8 : Lay (Mu [(59, pm_upd (pm_ct M 59) q (e.1 : Int)), (60, pm_upd (pm_ct M 60) q (pm_and (e.2.1 : Int) z)), (61, pm_upd (pm_ct M 61) q ((e.2.2.1 : Int) + 1)), (62, pm_upd (pm_ct M 62) q ((e.2.2.2.1 : Int) + (tB T : Int))), (63, pm_upd (pm_ct M 63) q ((e.2.2.2.2.1 : Int) + 0))] M) := lay6.muA (l := [(59, pm_upd (pm_ct M 59) q (e.1 : Int)), (60, pm_upd (pm_ct M 60) q (pm_and (e.2.1 : Int) z)), (61, pm_upd (pm_ct M 61) q ((e.2.2.1 : Int) + 1)), (62, pm_upd (pm_ct M 62) q ((e.2.2.2.1 : Int) + (tB T : Int)))]) (a := 63) (f := pm_upd (pm_ct M 63) q ((e.2.2.2.2.1 : Int) + 0)) rfl rfl
          refine m_iastore (u := [(59, pm_upd (pm_ct M 59) q (e.1 : Int)), (60, pm_upd (pm_ct M 60) q (pm_and (e.2.1 : Int) z)), (61, pm_upd (pm_ct M 61) q ((e.2.2.1 : Int) + 1)), (62, pm_upd (pm_ct M 62) q ((e.2.2.2.1 : Int) + (tB T : Int)))]) (u' := [(59, pm_upd (pm_ct M 59) q (e.1 : Int)), (60, pm_upd (pm_ct M 60) q (pm_and (e.2.1 : Int) z)), (61, pm_upd (pm_ct M 61) q ((e.2.2.1 : Int) + 1)), (62, pm_upd (pm_ct M 62) q ((e.2.2.2.1 : Int) + (tB T : Int))), (63, pm_upd (pm_ct M 63) q ((e.2.2.2.2.1 : Int) + 0))]) (M := M) lk_100_194 (lay6.ay (by decide) rfl) (by omega) (j := q) (by omega) rfl ?_
          refine g_aload_n lk_100_195 rfl ?_
          refine g_getfield lk_100_196 rfl (lay8.on (by decide) rfl) (v := ((64 : Nat) : Int)) (lay8.rf rfl) ?_
          refine g_iload_n lk_100_199 rfl ?_
          refine g_aload_n lk_100_200 rfl ?_
          refine g_getfield lk_100_201 rfl (lay8.on (by decide) rfl) (v := ((55 : Nat) : Int)) (lay8.rf rfl) ?_
          refine g_getfield lk_100_204 rfl (lay8.on (by decide) rfl) (v := ((56 : Nat) : Int)) (lay8.rf rfl) ?_
          refine g_iload_n lk_100_207 rfl ?_
          refine m_iaload (u := [(59, pm_upd (pm_ct M 59) q (e.1 : Int)), (60, pm_upd (pm_ct M 60) q (pm_and (e.2.1 : Int) z)), (61, pm_upd (pm_ct M 61) q ((e.2.2.1 : Int) + 1)), (62, pm_upd (pm_ct M 62) q ((e.2.2.2.1 : Int) + (tB T : Int))), (63, pm_upd (pm_ct M 63) q ((e.2.2.2.2.1 : Int) + 0))]) (M := M) lk_100_208 (lay8.ay (by decide) rfl) (by omega) (j := k) (by omega) (v := 2) hx' ?_
          have lay9 : Lay (Mu [(59, pm_upd (pm_ct M 59) q (e.1 : Int)), (60, pm_upd (pm_ct M 60) q (pm_and (e.2.1 : Int) z)), (61, pm_upd (pm_ct M 61) q ((e.2.2.1 : Int) + 1)), (62, pm_upd (pm_ct M 62) q ((e.2.2.2.1 : Int) + (tB T : Int))), (63, pm_upd (pm_ct M 63) q ((e.2.2.2.2.1 : Int) + 0)), (64, pm_upd (pm_ct M 64) q 2)] M) := lay8.muA (l := [(59, pm_upd (pm_ct M 59) q (e.1 : Int)), (60, pm_upd (pm_ct M 60) q (pm_and (e.2.1 : Int) z)), (61, pm_upd (pm_ct M 61) q ((e.2.2.1 : Int) + 1)), (62, pm_upd (pm_ct M 62) q ((e.2.2.2.1 : Int) + (tB T : Int))), (63, pm_upd (pm_ct M 63) q ((e.2.2.2.2.1 : Int) + 0))]) (a := 64) (f := pm_upd (pm_ct M 64) q 2) rfl rfl
          refine m_iastore (u := [(59, pm_upd (pm_ct M 59) q (e.1 : Int)), (60, pm_upd (pm_ct M 60) q (pm_and (e.2.1 : Int) z)), (61, pm_upd (pm_ct M 61) q ((e.2.2.1 : Int) + 1)), (62, pm_upd (pm_ct M 62) q ((e.2.2.2.1 : Int) + (tB T : Int))), (63, pm_upd (pm_ct M 63) q ((e.2.2.2.2.1 : Int) + 0))]) (u' := [(59, pm_upd (pm_ct M 59) q (e.1 : Int)), (60, pm_upd (pm_ct M 60) q (pm_and (e.2.1 : Int) z)), (61, pm_upd (pm_ct M 61) q ((e.2.2.1 : Int) + 1)), (62, pm_upd (pm_ct M 62) q ((e.2.2.2.1 : Int) + (tB T : Int))), (63, pm_upd (pm_ct M 63) q ((e.2.2.2.2.1 : Int) + 0)), (64, pm_upd (pm_ct M 64) q 2)]) (M := M) lk_100_209 (lay8.ay (by decide) rfl) (by omega) (j := q) (by omega) rfl ?_
          refine g_return lk_100_210 ?_
          exact fin _ _ _ _ _ _ _ rfl lay9 (by rw [d1]) (by rw [z2, d2]) (by omega) (by rw [p1]; omega) (by rw [if_pos (by omega)]; omega) rfl
        · replace h7 : ¬ ((y : Int) = 0) := h7
          refine g_aload_n lk_100_147 rfl ?_
          refine g_getfield lk_100_148 rfl (lay6.on (by decide) rfl) (v := ((64 : Nat) : Int)) (lay6.rf rfl) ?_
          refine g_iload_n lk_100_151 rfl ?_
          refine m_iaload (u := [(59, pm_upd (pm_ct M 59) q (e.1 : Int)), (60, pm_upd (pm_ct M 60) q (pm_and (e.2.1 : Int) z)), (61, pm_upd (pm_ct M 61) q ((e.2.2.1 : Int) + 1)), (62, pm_upd (pm_ct M 62) q ((e.2.2.2.1 : Int) + (tB T : Int)))]) (M := M) lk_100_152 (lay6.ay (by decide) rfl) (by omega) (j := k) (by omega) (v := (y : Int)) r6 ?_
          refine g_aload_n lk_100_153 rfl ?_
          refine g_getfield lk_100_154 rfl (lay6.on (by decide) rfl) (v := ((55 : Nat) : Int)) (lay6.rf rfl) ?_
          refine g_getfield lk_100_157 rfl (lay6.on (by decide) rfl) (v := ((56 : Nat) : Int)) (lay6.rf rfl) ?_
          refine g_iload_n lk_100_160 rfl ?_
          refine m_iaload (u := [(59, pm_upd (pm_ct M 59) q (e.1 : Int)), (60, pm_upd (pm_ct M 60) q (pm_and (e.2.1 : Int) z)), (61, pm_upd (pm_ct M 61) q ((e.2.2.1 : Int) + 1)), (62, pm_upd (pm_ct M 62) q ((e.2.2.2.1 : Int) + (tB T : Int)))]) (M := M) lk_100_161 (lay6.ay (by decide) rfl) (by omega) (j := k) (by omega) (v := 2) hx' ?_
          refine g_icmp (t := 169) lk_100_162 rfl (by first | (unfold pm_inI; omega) | exact pm_and_in _ _ | exact pm_shr_in _ _ | exact pm_or_in _ _ | exact pm_xor_in _ _ | exact pm_shl_in _ _ | exact pm_cmp_in _ _ | exact pm_b8_in _ | (unfold pm_inI; split <;> omega)) (by first | (unfold pm_inI; omega) | exact pm_and_in _ _ | exact pm_shr_in _ _ | exact pm_or_in _ _ | exact pm_xor_in _ _ | exact pm_shl_in _ _ | exact pm_cmp_in _ _ | exact pm_b8_in _ | (unfold pm_inI; split <;> omega)) (fun h10 => ?_) (fun h10 => ?_)
          · replace h10 : (y : Int) = 2 := h10
            refine g_iconst lk_100_169 ?_
            refine g_istore (ls' := [(2, ((54 : Nat) : Int)), (0, (k : Int)), (0, (q : Int)), (0, z), (2, ((24 : Nat) : Int)), (0, 0), (0, 0)]) lk_100_170 rfl rfl ?_
            refine g_aload_n lk_100_172 rfl ?_
            refine g_getfield lk_100_173 rfl (lay6.on (by decide) rfl) (v := ((63 : Nat) : Int)) (lay6.rf rfl) ?_
            refine g_iload_n lk_100_176 rfl ?_
            refine g_aload_n lk_100_177 rfl ?_
            refine g_getfield lk_100_178 rfl (lay6.on (by decide) rfl) (v := ((63 : Nat) : Int)) (lay6.rf rfl) ?_
            refine g_iload_n lk_100_181 rfl ?_
            refine m_iaload (u := [(59, pm_upd (pm_ct M 59) q (e.1 : Int)), (60, pm_upd (pm_ct M 60) q (pm_and (e.2.1 : Int) z)), (61, pm_upd (pm_ct M 61) q ((e.2.2.1 : Int) + 1)), (62, pm_upd (pm_ct M 62) q ((e.2.2.2.1 : Int) + (tB T : Int)))]) (M := M) lk_100_182 (lay6.ay (by decide) rfl) (by omega) (j := k) (by omega) (v := (e.2.2.2.2.1 : Int)) r5 ?_
            refine g_iload lk_100_183 rfl ?_
            refine g_if (t := 192) lk_100_185 rfl (by first | (unfold pm_inI; omega) | exact pm_and_in _ _ | exact pm_shr_in _ _ | exact pm_or_in _ _ | exact pm_xor_in _ _ | exact pm_shl_in _ _ | exact pm_cmp_in _ _ | exact pm_b8_in _ | (unfold pm_inI; split <;> omega)) (fun _ => ?_) (fun h => absurd (show (0 : Int) = (0 : Int) by omega) h)
            refine g_iconst lk_100_192 ?_
            refine g_iadd lk_100_193 ?_
            have lay11 : Lay (Mu [(59, pm_upd (pm_ct M 59) q (e.1 : Int)), (60, pm_upd (pm_ct M 60) q (pm_and (e.2.1 : Int) z)), (61, pm_upd (pm_ct M 61) q ((e.2.2.1 : Int) + 1)), (62, pm_upd (pm_ct M 62) q ((e.2.2.2.1 : Int) + (tB T : Int))), (63, pm_upd (pm_ct M 63) q ((e.2.2.2.2.1 : Int) + 0))] M) := lay6.muA (l := [(59, pm_upd (pm_ct M 59) q (e.1 : Int)), (60, pm_upd (pm_ct M 60) q (pm_and (e.2.1 : Int) z)), (61, pm_upd (pm_ct M 61) q ((e.2.2.1 : Int) + 1)), (62, pm_upd (pm_ct M 62) q ((e.2.2.2.1 : Int) + (tB T : Int)))]) (a := 63) (f := pm_upd (pm_ct M 63) q ((e.2.2.2.2.1 : Int) + 0)) rfl rfl
            refine m_iastore (u := [(59, pm_upd (pm_ct M 59) q (e.1 : Int)), (60, pm_upd (pm_ct M 60) q (pm_and (e.2.1 : Int) z)), (61, pm_upd (pm_ct M 61) q ((e.2.2.1 : Int) + 1)), (62, pm_upd (pm_ct M 62) q ((e.2.2.2.1 : Int) + (tB T : Int)))]) (u' := [(59, pm_upd (pm_ct M 59) q (e.1 : Int)), (60, pm_upd (pm_ct M 60) q (pm_and (e.2.1 : Int) z)), (61, pm_upd (pm_ct M 61) q ((e.2.2.1 : Int) + 1)), (62, pm_upd (pm_ct M 62) q ((e.2.2.2.1 : Int) + (tB T : Int))), (63, pm_upd (pm_ct M 63) q ((e.2.2.2.2.1 : Int) + 0))]) (M := M) lk_100_194 (lay6.ay (by decide) rfl) (by omega) (j := q) (by omega) rfl ?_
            refine g_aload_n lk_100_195 rfl ?_
            refine g_getfield lk_100_196 rfl (lay11.on (by decide) rfl) (v := ((64 : Nat) : Int)) (lay11.rf rfl) ?_
            refine g_iload_n lk_100_199 rfl ?_
            refine g_aload_n lk_100_200 rfl ?_
            refine g_getfield lk_100_201 rfl (lay11.on (by decide) rfl) (v := ((55 : Nat) : Int)) (lay11.rf rfl) ?_
            refine g_getfield lk_100_204 rfl (lay11.on (by decide) rfl) (v := ((56 : Nat) : Int)) (lay11.rf rfl) ?_
            refine g_iload_n lk_100_207 rfl ?_
            refine m_iaload (u := [(59, pm_upd (pm_ct M 59) q (e.1 : Int)), (60, pm_upd (pm_ct M 60) q (pm_and (e.2.1 : Int) z)), (61, pm_upd (pm_ct M 61) q ((e.2.2.1 : Int) + 1)), (62, pm_upd (pm_ct M 62) q ((e.2.2.2.1 : Int) + (tB T : Int))), (63, pm_upd (pm_ct M 63) q ((e.2.2.2.2.1 : Int) + 0))]) (M := M) lk_100_208 (lay11.ay (by decide) rfl) (by omega) (j := k) (by omega) (v := 2) hx' ?_
            have lay12 : Lay (Mu [(59, pm_upd (pm_ct M 59) q (e.1 : Int)), (60, pm_upd (pm_ct M 60) q (pm_and (e.2.1 : Int) z)), (61, pm_upd (pm_ct M 61) q ((e.2.2.1 : Int) + 1)), (62, pm_upd (pm_ct M 62) q ((e.2.2.2.1 : Int) + (tB T : Int))), (63, pm_upd (pm_ct M 63) q ((e.2.2.2.2.1 : Int) + 0)), (64, pm_upd (pm_ct M 64) q 2)] M) := lay11.muA (l := [(59, pm_upd (pm_ct M 59) q (e.1 : Int)), (60, pm_upd (pm_ct M 60) q (pm_and (e.2.1 : Int) z)), (61, pm_upd (pm_ct M 61) q ((e.2.2.1 : Int) + 1)), (62, pm_upd (pm_ct M 62) q ((e.2.2.2.1 : Int) + (tB T : Int))), (63, pm_upd (pm_ct M 63) q ((e.2.2.2.2.1 : Int) + 0))]) (a := 64) (f := pm_upd (pm_ct M 64) q 2) rfl rfl
            refine m_iastore (u := [(59, pm_upd (pm_ct M 59) q (e.1 : Int)), (60, pm_upd (pm_ct M 60) q (pm_and (e.2.1 : Int) z)), (61, pm_upd (pm_ct M 61) q ((e.2.2.1 : Int) + 1)), (62, pm_upd (pm_ct M 62) q ((e.2.2.2.1 : Int) + (tB T : Int))), (63, pm_upd (pm_ct M 63) q ((e.2.2.2.2.1 : Int) + 0))]) (u' := [(59, pm_upd (pm_ct M 59) q (e.1 : Int)), (60, pm_upd (pm_ct M 60) q (pm_and (e.2.1 : Int) z)), (61, pm_upd (pm_ct M 61) q ((e.2.2.1 : Int) + 1)), (62, pm_upd (pm_ct M 62) q ((e.2.2.2.1 : Int) + (tB T : Int))), (63, pm_upd (pm_ct M 63) q ((e.2.2.2.2.1 : Int) + 0)), (64, pm_upd (pm_ct M 64) q 2)]) (M := M) lk_100_209 (lay11.ay (by decide) rfl) (by omega) (j := q) (by omega) rfl ?_
            refine g_return lk_100_210 ?_
            exact fin _ _ _ _ _ _ _ rfl lay12 (by rw [d1]) (by rw [z2, d2]) (by omega) (by rw [p1]; omega) (by rw [if_neg (by omega), if_pos (by omega)]; omega) rfl
          · replace h10 : ¬ ((y : Int) = 2) := h10
            refine g_iconst lk_100_165 ?_
            refine g_goto (t := 170) lk_100_166 rfl ?_
            refine g_istore (ls' := [(2, ((54 : Nat) : Int)), (0, (k : Int)), (0, (q : Int)), (0, z), (2, ((24 : Nat) : Int)), (0, 0), (0, 1)]) lk_100_170 rfl rfl ?_
            refine g_aload_n lk_100_172 rfl ?_
            refine g_getfield lk_100_173 rfl (lay6.on (by decide) rfl) (v := ((63 : Nat) : Int)) (lay6.rf rfl) ?_
            refine g_iload_n lk_100_176 rfl ?_
            refine g_aload_n lk_100_177 rfl ?_
            refine g_getfield lk_100_178 rfl (lay6.on (by decide) rfl) (v := ((63 : Nat) : Int)) (lay6.rf rfl) ?_
            refine g_iload_n lk_100_181 rfl ?_
            refine m_iaload (u := [(59, pm_upd (pm_ct M 59) q (e.1 : Int)), (60, pm_upd (pm_ct M 60) q (pm_and (e.2.1 : Int) z)), (61, pm_upd (pm_ct M 61) q ((e.2.2.1 : Int) + 1)), (62, pm_upd (pm_ct M 62) q ((e.2.2.2.1 : Int) + (tB T : Int)))]) (M := M) lk_100_182 (lay6.ay (by decide) rfl) (by omega) (j := k) (by omega) (v := (e.2.2.2.2.1 : Int)) r5 ?_
            refine g_iload lk_100_183 rfl ?_
            refine g_if (t := 192) lk_100_185 rfl (by first | (unfold pm_inI; omega) | exact pm_and_in _ _ | exact pm_shr_in _ _ | exact pm_or_in _ _ | exact pm_xor_in _ _ | exact pm_shl_in _ _ | exact pm_cmp_in _ _ | exact pm_b8_in _ | (unfold pm_inI; split <;> omega)) (fun h => absurd h (show ¬ ((1 : Int) = (0 : Int)) by omega)) (fun _ => ?_)
            refine g_iconst lk_100_188 ?_
            refine g_goto (t := 193) lk_100_189 rfl ?_
            refine g_iadd lk_100_193 ?_
            have lay13 : Lay (Mu [(59, pm_upd (pm_ct M 59) q (e.1 : Int)), (60, pm_upd (pm_ct M 60) q (pm_and (e.2.1 : Int) z)), (61, pm_upd (pm_ct M 61) q ((e.2.2.1 : Int) + 1)), (62, pm_upd (pm_ct M 62) q ((e.2.2.2.1 : Int) + (tB T : Int))), (63, pm_upd (pm_ct M 63) q ((e.2.2.2.2.1 : Int) + 1))] M) := lay6.muA (l := [(59, pm_upd (pm_ct M 59) q (e.1 : Int)), (60, pm_upd (pm_ct M 60) q (pm_and (e.2.1 : Int) z)), (61, pm_upd (pm_ct M 61) q ((e.2.2.1 : Int) + 1)), (62, pm_upd (pm_ct M 62) q ((e.2.2.2.1 : Int) + (tB T : Int)))]) (a := 63) (f := pm_upd (pm_ct M 63) q ((e.2.2.2.2.1 : Int) + 1)) rfl rfl
            refine m_iastore (u := [(59, pm_upd (pm_ct M 59) q (e.1 : Int)), (60, pm_upd (pm_ct M 60) q (pm_and (e.2.1 : Int) z)), (61, pm_upd (pm_ct M 61) q ((e.2.2.1 : Int) + 1)), (62, pm_upd (pm_ct M 62) q ((e.2.2.2.1 : Int) + (tB T : Int)))]) (u' := [(59, pm_upd (pm_ct M 59) q (e.1 : Int)), (60, pm_upd (pm_ct M 60) q (pm_and (e.2.1 : Int) z)), (61, pm_upd (pm_ct M 61) q ((e.2.2.1 : Int) + 1)), (62, pm_upd (pm_ct M 62) q ((e.2.2.2.1 : Int) + (tB T : Int))), (63, pm_upd (pm_ct M 63) q ((e.2.2.2.2.1 : Int) + 1))]) (M := M) lk_100_194 (lay6.ay (by decide) rfl) (by omega) (j := q) (by omega) rfl ?_
            refine g_aload_n lk_100_195 rfl ?_
            refine g_getfield lk_100_196 rfl (lay13.on (by decide) rfl) (v := ((64 : Nat) : Int)) (lay13.rf rfl) ?_
            refine g_iload_n lk_100_199 rfl ?_
            refine g_aload_n lk_100_200 rfl ?_
            refine g_getfield lk_100_201 rfl (lay13.on (by decide) rfl) (v := ((55 : Nat) : Int)) (lay13.rf rfl) ?_
            refine g_getfield lk_100_204 rfl (lay13.on (by decide) rfl) (v := ((56 : Nat) : Int)) (lay13.rf rfl) ?_
            refine g_iload_n lk_100_207 rfl ?_
            refine m_iaload (u := [(59, pm_upd (pm_ct M 59) q (e.1 : Int)), (60, pm_upd (pm_ct M 60) q (pm_and (e.2.1 : Int) z)), (61, pm_upd (pm_ct M 61) q ((e.2.2.1 : Int) + 1)), (62, pm_upd (pm_ct M 62) q ((e.2.2.2.1 : Int) + (tB T : Int))), (63, pm_upd (pm_ct M 63) q ((e.2.2.2.2.1 : Int) + 1))]) (M := M) lk_100_208 (lay13.ay (by decide) rfl) (by omega) (j := k) (by omega) (v := 2) hx' ?_
            have lay14 : Lay (Mu [(59, pm_upd (pm_ct M 59) q (e.1 : Int)), (60, pm_upd (pm_ct M 60) q (pm_and (e.2.1 : Int) z)), (61, pm_upd (pm_ct M 61) q ((e.2.2.1 : Int) + 1)), (62, pm_upd (pm_ct M 62) q ((e.2.2.2.1 : Int) + (tB T : Int))), (63, pm_upd (pm_ct M 63) q ((e.2.2.2.2.1 : Int) + 1)), (64, pm_upd (pm_ct M 64) q 2)] M) := lay13.muA (l := [(59, pm_upd (pm_ct M 59) q (e.1 : Int)), (60, pm_upd (pm_ct M 60) q (pm_and (e.2.1 : Int) z)), (61, pm_upd (pm_ct M 61) q ((e.2.2.1 : Int) + 1)), (62, pm_upd (pm_ct M 62) q ((e.2.2.2.1 : Int) + (tB T : Int))), (63, pm_upd (pm_ct M 63) q ((e.2.2.2.2.1 : Int) + 1))]) (a := 64) (f := pm_upd (pm_ct M 64) q 2) rfl rfl
            refine m_iastore (u := [(59, pm_upd (pm_ct M 59) q (e.1 : Int)), (60, pm_upd (pm_ct M 60) q (pm_and (e.2.1 : Int) z)), (61, pm_upd (pm_ct M 61) q ((e.2.2.1 : Int) + 1)), (62, pm_upd (pm_ct M 62) q ((e.2.2.2.1 : Int) + (tB T : Int))), (63, pm_upd (pm_ct M 63) q ((e.2.2.2.2.1 : Int) + 1))]) (u' := [(59, pm_upd (pm_ct M 59) q (e.1 : Int)), (60, pm_upd (pm_ct M 60) q (pm_and (e.2.1 : Int) z)), (61, pm_upd (pm_ct M 61) q ((e.2.2.1 : Int) + 1)), (62, pm_upd (pm_ct M 62) q ((e.2.2.2.1 : Int) + (tB T : Int))), (63, pm_upd (pm_ct M 63) q ((e.2.2.2.2.1 : Int) + 1)), (64, pm_upd (pm_ct M 64) q 2)]) (M := M) lk_100_209 (lay13.ay (by decide) rfl) (by omega) (j := q) (by omega) rfl ?_
            refine g_return lk_100_210 ?_
            exact fin _ _ _ _ _ _ _ rfl lay14 (by rw [d1]) (by rw [z2, d2]) (by omega) (by rw [p1]; omega) (by rw [if_neg (by omega), if_neg (by omega)]; omega) rfl
      · replace h2 : ¬ ((q : Int) < (l : Int)) := h2
        omega
set_option maxHeartbeats 4000000 in
theorem c_Told_follow0 {d mc ms : Nat} {M : pm_M} (lay0 : Lay M) {T : Tab} (hT : TabOK T) (hM0 : TbAt M 24 T) {L : List Nd} {p dp : Nat → Nat} (hD : TrD L dp) (hp : PaOK L p) (hct0 : pm_ct M 55 3 = (L.length : Int)) (hL0 : NdL M 56 57 58 L) :
    pm_E (d + 2) 99 [(2, ((54 : Nat) : Int)), (2, ((24 : Nat) : Int))] M mc ms (fun ρ M' => ρ = none ∧ Lay M' ∧ Fr [59, 60, 61, 62, 63, 64] M M' ∧ CmAt M' 54 T L p) := by
  obtain ⟨Q, hQ⟩ : ∃ Q : pm_Q, Q = (fun ρ M' => ρ = none ∧ Lay M' ∧ Fr [59, 60, 61, 62, 63, 64] M M' ∧ CmAt M' 54 T L p) := ⟨_, rfl⟩
  rw [← hQ]
  have l31 := hD.2.1
  obtain ⟨l, hl⟩ : ∃ l, l = L.length := ⟨_, rfl⟩
  rw [← hl] at hct0 l31
  have loop : ∀ (n i : Nat) (N : pm_M), i + n = l → Lay N → Fr [59, 60, 61, 62, 63, 64] M N → A6 N 54 T L p i → Wp (d + 2) 99 50 [(2, ((54 : Nat) : Int)), (2, ((24 : Nat) : Int)), (0, (i : Int))] [] N mc ms Q := by
    intro n
    induction n with
    | zero =>
      intro i N hi lay fr ha
      have hct : pm_ct N 55 3 = (l : Int) := by rw [fr.ct (by decide)]; exact hct0
      have e : i = l := by omega
      rw [e] at ha ⊢
      refine g_iload_n lk_99_50 rfl ?_
      refine g_aload_n lk_99_51 rfl ?_
      refine g_getfield lk_99_52 rfl (lay.on (by decide) rfl) (v := ((55 : Nat) : Int)) (lay.rf rfl) ?_
      refine m_getfield (u := []) (M := N) lk_99_55 rfl (lay.on (by decide) rfl) (v := (l : Int)) hct ?_
      refine g_icmp (t := 123) lk_99_58 rfl (by first | (unfold pm_inI; omega) | exact pm_and_in _ _ | exact pm_shr_in _ _ | exact pm_or_in _ _ | exact pm_xor_in _ _ | exact pm_shl_in _ _ | exact pm_cmp_in _ _ | exact pm_b8_in _ | (unfold pm_inI; split <;> omega)) (by first | (unfold pm_inI; omega) | exact pm_and_in _ _ | exact pm_shr_in _ _ | exact pm_or_in _ _ | exact pm_xor_in _ _ | exact pm_shl_in _ _ | exact pm_cmp_in _ _ | exact pm_b8_in _ | (unfold pm_inI; split <;> omega)) (fun h1 => ?_) (fun h1 => ?_)
      · replace h1 : (l : Int) ≤ (l : Int) := h1
        refine g_return lk_99_123 ?_
        rw [hQ]
        exact ⟨rfl, lay, fr, A6.cm hp (by rw [← hl]; exact ha)⟩
      · replace h1 : ¬ ((l : Int) ≤ (l : Int)) := h1
        omega
    | succ n ih =>
      intro i N hi lay fr ha
      have hct : pm_ct N 55 3 = (l : Int) := by rw [fr.ct (by decide)]; exact hct0
      have hk : i < L.length := by omega
      obtain ⟨x1, x2, x3⟩ := hL0 i _ (ndA_get hk)
      have y1 : pm_ct N 56 i = ((ndA L i).1 : Int) := by rw [fr.ct (by decide)]; exact x1
      have y2 : pm_ct N 57 i = ((ndA L i).2.1 : Int) := by rw [fr.ct (by decide)]; exact x2
      by_cases h0 : (ndA L i).1 = 0
      · have y1' : pm_ct N 56 i = 0 := by rw [y1, h0]; rfl
        refine g_iload_n lk_99_50 rfl ?_
        refine g_aload_n lk_99_51 rfl ?_
        refine g_getfield lk_99_52 rfl (lay.on (by decide) rfl) (v := ((55 : Nat) : Int)) (lay.rf rfl) ?_
        refine m_getfield (u := []) (M := N) lk_99_55 rfl (lay.on (by decide) rfl) (v := (l : Int)) hct ?_
        refine g_icmp (t := 123) lk_99_58 rfl (by first | (unfold pm_inI; omega) | exact pm_and_in _ _ | exact pm_shr_in _ _ | exact pm_or_in _ _ | exact pm_xor_in _ _ | exact pm_shl_in _ _ | exact pm_cmp_in _ _ | exact pm_b8_in _ | (unfold pm_inI; split <;> omega)) (by first | (unfold pm_inI; omega) | exact pm_and_in _ _ | exact pm_shr_in _ _ | exact pm_or_in _ _ | exact pm_xor_in _ _ | exact pm_shl_in _ _ | exact pm_cmp_in _ _ | exact pm_b8_in _ | (unfold pm_inI; split <;> omega)) (fun h1 => ?_) (fun h1 => ?_)
        · replace h1 : (l : Int) ≤ (i : Int) := h1
          omega
        · replace h1 : ¬ ((l : Int) ≤ (i : Int)) := h1
          refine g_aload_n lk_99_61 rfl ?_
          refine g_getfield lk_99_62 rfl (lay.on (by decide) rfl) (v := ((55 : Nat) : Int)) (lay.rf rfl) ?_
          refine g_getfield lk_99_65 rfl (lay.on (by decide) rfl) (v := ((56 : Nat) : Int)) (lay.rf rfl) ?_
          refine g_iload_n lk_99_68 rfl ?_
          refine m_iaload (u := []) (M := N) lk_99_69 (lay.ay (by decide) rfl) (by omega) (j := i) (by omega) (v := 0) y1' ?_
          refine g_if (t := 117) lk_99_70 rfl (by first | (unfold pm_inI; omega) | exact pm_and_in _ _ | exact pm_shr_in _ _ | exact pm_or_in _ _ | exact pm_xor_in _ _ | exact pm_shl_in _ _ | exact pm_cmp_in _ _ | exact pm_b8_in _ | (unfold pm_inI; split <;> omega)) (fun _ => ?_) (fun h => absurd (show (0 : Int) = (0 : Int) by omega) h)
          refine g_iinc (ls' := [(2, ((54 : Nat) : Int)), (2, ((24 : Nat) : Int)), (0, ((i : Int) + 1))]) lk_99_117 rfl rfl rfl ?_
          refine g_goto (t := 50) lk_99_120 rfl ?_
          exact ih (i + 1) N (by omega) lay fr (ha.leaf hp h0)
      obtain ⟨a1, a2, _, a4⟩ := hD.2.2.2 i hk
      obtain ⟨g1, g2, g3, g4, _, _⟩ := a4 h0
      obtain ⟨q, hq⟩ : ∃ q, q = (ndA L i).2.2.toNat := ⟨_, rfl⟩
      have y3 : pm_ct N 58 i = (q : Int) := by rw [fr.ct (by decide), x3]; omega
      have q1 : i + 1 < q := by omega
      have q2 : q < l := by omega
      obtain ⟨b1, b2, _, _, _, b6⟩ := CM_bd hT hD hp _ _ (Nat.lt_succ_self _) hk
      have r6 := lt_64_of hT.1.2 b1
      have c6 := lt_64_of hT.2.1.2 b2
      have ra := ha.at hp hk
      have st := fun {K1 K2 : pm_M} (u1 : U6 N K1 54 (i + 1) _) (u2 : U6 K1 K2 54 q _) => ha.stp hD hp hk h0 hq u1 u2
      obtain ⟨e, he⟩ : ∃ e, e = CM T L p i := ⟨_, rfl⟩
      obtain ⟨s, hs⟩ : ∃ s, s = (ndA L i).2.1 := ⟨_, rfl⟩
      obtain ⟨x, hx⟩ : ∃ x, x = (ndA L i).1 := ⟨_, rfl⟩
      rw [← he] at ra r6 c6 st b6
      rw [← hs] at y2 a2 st
      rw [← hx] at y1 a1 h0 st
      have x12 : x = 1 ∨ x = 2 := by omega
      have z1 : ∀ a : Nat, a < 64 → pm_and (a : Int) (s : Int) = ((ctS true a s : Nat) : Int) := fun a ha => pm_and_n (by omega) (by omega)
      have z2 : ∀ a : Nat, a < 64 → pm_and (a : Int) (pm_xor (s : Int) (-1)) = ((ctS false a s : Nat) : Int) := fun a ha => pm_nand ha a2
      have tb := hM0.fr fr (by decide) (by decide)
      have hd1 := c_Told_handDown0 (d := d) (mc := 0) (ms := 0) (q := i + 1) lay hT tb hct l31 (Nat.lt_succ_self _) (by omega) y1 x12 z1 ra r6 c6 b6
      have hd2 := fun {K1 : pm_M} (l1 : Lay K1) (f1 : Fr [59, 60, 61, 62, 63, 64] N K1) (u1 : U6 N K1 54 (i + 1) (dStp T x s true e)) => c_Told_handDown0 (d := d) (mc := 0) (ms := 0) (k := i) (q := q) l1 hT (tb.fr f1 (by decide) (by decide)) (by rw [f1.ct (by decide)]; exact hct) l31 (by omega) q2 (by rw [f1.ct (by decide)]; exact y1) x12 z2 (ra.ne u1 (by omega)) r6 c6 b6
      have fd := fun N' => ih (i + 1) N' (by omega)
      clear ih a4
      refine g_iload_n lk_99_50 rfl ?_
      refine g_aload_n lk_99_51 rfl ?_
      refine g_getfield lk_99_52 rfl (lay.on (by decide) rfl) (v := ((55 : Nat) : Int)) (lay.rf rfl) ?_
      refine m_getfield (u := []) (M := N) lk_99_55 rfl (lay.on (by decide) rfl) (v := (l : Int)) hct ?_
      refine g_icmp (t := 123) lk_99_58 rfl (by first | (unfold pm_inI; omega) | exact pm_and_in _ _ | exact pm_shr_in _ _ | exact pm_or_in _ _ | exact pm_xor_in _ _ | exact pm_shl_in _ _ | exact pm_cmp_in _ _ | exact pm_b8_in _ | (unfold pm_inI; split <;> omega)) (by first | (unfold pm_inI; omega) | exact pm_and_in _ _ | exact pm_shr_in _ _ | exact pm_or_in _ _ | exact pm_xor_in _ _ | exact pm_shl_in _ _ | exact pm_cmp_in _ _ | exact pm_b8_in _ | (unfold pm_inI; split <;> omega)) (fun h1 => ?_) (fun h1 => ?_)
      · replace h1 : (l : Int) ≤ (i : Int) := h1
        omega
      · replace h1 : ¬ ((l : Int) ≤ (i : Int)) := h1
        refine g_aload_n lk_99_61 rfl ?_
        refine g_getfield lk_99_62 rfl (lay.on (by decide) rfl) (v := ((55 : Nat) : Int)) (lay.rf rfl) ?_
        refine g_getfield lk_99_65 rfl (lay.on (by decide) rfl) (v := ((56 : Nat) : Int)) (lay.rf rfl) ?_
        refine g_iload_n lk_99_68 rfl ?_
        refine m_iaload (u := []) (M := N) lk_99_69 (lay.ay (by decide) rfl) (by omega) (j := i) (by omega) (v := (x : Int)) y1 ?_
        refine g_if (t := 117) lk_99_70 rfl (by first | (unfold pm_inI; omega) | exact pm_and_in _ _ | exact pm_shr_in _ _ | exact pm_or_in _ _ | exact pm_xor_in _ _ | exact pm_shl_in _ _ | exact pm_cmp_in _ _ | exact pm_b8_in _ | (unfold pm_inI; split <;> omega)) (fun h2 => ?_) (fun h2 => ?_)
        · replace h2 : (x : Int) = 0 := h2
          refine g_iinc (ls' := [(2, ((54 : Nat) : Int)), (2, ((24 : Nat) : Int)), (0, ((i : Int) + 1))]) lk_99_117 rfl rfl rfl ?_
          refine g_goto (t := 50) lk_99_120 rfl ?_
          omega
        · replace h2 : ¬ ((x : Int) = 0) := h2
          refine g_aload_n lk_99_73 rfl ?_
          refine g_iload_n lk_99_74 rfl ?_
          refine g_iload_n lk_99_75 rfl ?_
          refine g_iconst lk_99_76 ?_
          refine g_iadd lk_99_77 ?_
          refine g_aload_n lk_99_78 rfl ?_
          refine g_getfield lk_99_79 rfl (lay.on (by decide) rfl) (v := ((55 : Nat) : Int)) (lay.rf rfl) ?_
          refine g_getfield lk_99_82 rfl (lay.on (by decide) rfl) (v := ((57 : Nat) : Int)) (lay.rf rfl) ?_
          refine g_iload_n lk_99_85 rfl ?_
          refine m_iaload (u := []) (M := N) lk_99_86 (lay.ay (by decide) rfl) (by omega) (j := i) (by omega) (v := (s : Int)) y2 ?_
          refine g_aload_n lk_99_87 rfl ?_
          refine g_virtual (p := 54) (Qc := _) lk_99_88 rfl (Nat.le_of_ble_eq_true rfl) rfl rfl (lay.on (by decide) rfl) (Nat.le_of_ble_eq_true rfl) (Nat.le_of_ble_eq_true rfl) (Nat.zero_le _) (Nat.zero_le _) (hd1) ?_
          rintro _ K1 ⟨rfl, lay1, f1, u1⟩
          have k3 : pm_ct K1 58 i = (q : Int) := (by rw [f1.ct (by decide)]; exact y3)
          have k2 : pm_ct K1 57 i = (s : Int) := (by rw [f1.ct (by decide)]; exact y2)
          show Wp _ 99 91 [(2, ((54 : Nat) : Int)), (2, ((24 : Nat) : Int)), (0, (i : Int))] [] K1 _ _ _
          refine g_aload_n lk_99_91 rfl ?_
          refine g_iload_n lk_99_92 rfl ?_
          refine g_aload_n lk_99_93 rfl ?_
          refine g_getfield lk_99_94 rfl (lay1.on (by decide) rfl) (v := ((55 : Nat) : Int)) (lay1.rf rfl) ?_
          refine g_getfield lk_99_97 rfl (lay1.on (by decide) rfl) (v := ((58 : Nat) : Int)) (lay1.rf rfl) ?_
          refine g_iload_n lk_99_100 rfl ?_
          refine m_iaload (u := []) (M := K1) lk_99_101 (lay1.ay (by decide) rfl) (by omega) (j := i) (by omega) (v := (q : Int)) k3 ?_
          refine g_aload_n lk_99_102 rfl ?_
          refine g_getfield lk_99_103 rfl (lay1.on (by decide) rfl) (v := ((55 : Nat) : Int)) (lay1.rf rfl) ?_
          refine g_getfield lk_99_106 rfl (lay1.on (by decide) rfl) (v := ((57 : Nat) : Int)) (lay1.rf rfl) ?_
          refine g_iload_n lk_99_109 rfl ?_
          refine m_iaload (u := []) (M := K1) lk_99_110 (lay1.ay (by decide) rfl) (by omega) (j := i) (by omega) (v := (s : Int)) k2 ?_
          refine g_iconst lk_99_111 ?_
          refine g_ixor lk_99_112 ?_
          refine g_aload_n lk_99_113 rfl ?_
          refine g_virtual (p := 54) (Qc := _) lk_99_114 rfl (Nat.le_of_ble_eq_true rfl) rfl rfl (lay1.on (by decide) rfl) (Nat.le_of_ble_eq_true rfl) (Nat.le_of_ble_eq_true rfl) (Nat.zero_le _) (Nat.zero_le _) (hd2 lay1 f1 u1) ?_
          rintro _ K2 ⟨rfl, lay2, f2, u2⟩
          show Wp _ 99 117 [(2, ((54 : Nat) : Int)), (2, ((24 : Nat) : Int)), (0, (i : Int))] [] K2 _ _ _
          refine g_iinc (ls' := [(2, ((54 : Nat) : Int)), (2, ((24 : Nat) : Int)), (0, ((i : Int) + 1))]) lk_99_117 rfl rfl rfl ?_
          refine g_goto (t := 50) lk_99_120 rfl ?_
          exact fd K2 lay2 ((fr.trans f1).trans f2) (st u1 u2)
  show Wp (d + 2) 99 0 [(2, ((54 : Nat) : Int)), (2, ((24 : Nat) : Int)), (9, 0)] [] M mc ms Q
  have ar := c_Table_allRows (d := d + 1) (mc := 0) (ms := 0) lay0 (Or.inr rfl) hT hM0
  have g0 : ∀ {f g : Nat → Int} {h : Dt → Nat}, f = pm_upd g 0 ((h (dBas T) : Nat) : Int) → AtC f h T L p 0 := fun hf k hk ho => by
    have k0 : k = 0 := by omega
    rw [k0, hf, pm_upd_eq, CM_0]
  refine g_aload_n lk_99_0 rfl ?_
  refine g_getfield lk_99_1 rfl (lay0.on (by decide) rfl) (v := ((59 : Nat) : Int)) (lay0.rf rfl) ?_
  refine g_iconst lk_99_4 ?_
  refine g_aload_n lk_99_5 rfl ?_
  refine g_virtual (p := 24) (Qc := _) lk_99_6 rfl (Nat.le_of_ble_eq_true rfl) rfl rfl (lay0.on (by decide) rfl) (Nat.le_of_ble_eq_true rfl) (Nat.le_of_ble_eq_true rfl) (Nat.zero_le _) (Nat.zero_le _) (ar) ?_
  rintro _ N1 ⟨rfl, hN1⟩
  rw [hN1]
  show Wp _ 99 9 [(2, ((54 : Nat) : Int)), (2, ((24 : Nat) : Int)), (9, 0)] [(0, ((2 ^ tR T - 1 : Nat) : Int)), (0, 0), (2, ((59 : Nat) : Int))] M _ _ _
  have lay2 : Lay (Mu [(59, pm_upd (pm_ct M 59) 0 ((2 ^ tR T - 1 : Nat) : Int))] M) := lay0.muA (l := []) (a := 59) (f := pm_upd (pm_ct M 59) 0 ((2 ^ tR T - 1 : Nat) : Int)) rfl rfl
  refine m_iastore (u := []) (u' := [(59, pm_upd (pm_ct M 59) 0 ((2 ^ tR T - 1 : Nat) : Int))]) (M := M) lk_99_9 (lay0.ay (by decide) rfl) (by omega) (j := 0) (by omega) rfl ?_
  refine g_aload_n lk_99_10 rfl ?_
  refine g_getfield lk_99_11 rfl (lay2.on (by decide) rfl) (v := ((60 : Nat) : Int)) (lay2.rf rfl) ?_
  refine g_iconst lk_99_14 ?_
  refine g_aload_n lk_99_15 rfl ?_
  refine g_virtual (p := 24) (Qc := _) lk_99_16 rfl (Nat.le_of_ble_eq_true rfl) rfl rfl (lay2.on (by decide) rfl) (Nat.le_of_ble_eq_true rfl) (Nat.le_of_ble_eq_true rfl) (Nat.zero_le _) (Nat.zero_le _) (c_Table_allColumns lay2 (Or.inr rfl) hT (hM0.fr (Fr.mu (S := [59]) _ _ rfl) (by decide) (by decide))) ?_
  rintro _ N3 ⟨rfl, hN3⟩
  rw [hN3]
  show Wp _ 99 19 [(2, ((54 : Nat) : Int)), (2, ((24 : Nat) : Int)), (9, 0)] [(0, ((2 ^ tC T - 1 : Nat) : Int)), (0, 0), (2, ((60 : Nat) : Int))] (Mu [(59, pm_upd (pm_ct M 59) 0 ((2 ^ tR T - 1 : Nat) : Int))] M) _ _ _
  have lay4 : Lay (Mu [(59, pm_upd (pm_ct M 59) 0 ((2 ^ tR T - 1 : Nat) : Int)), (60, pm_upd (pm_ct M 60) 0 ((2 ^ tC T - 1 : Nat) : Int))] M) := lay2.muA (l := [(59, pm_upd (pm_ct M 59) 0 ((2 ^ tR T - 1 : Nat) : Int))]) (a := 60) (f := pm_upd (pm_ct M 60) 0 ((2 ^ tC T - 1 : Nat) : Int)) rfl rfl
  refine m_iastore (u := [(59, pm_upd (pm_ct M 59) 0 ((2 ^ tR T - 1 : Nat) : Int))]) (u' := [(59, pm_upd (pm_ct M 59) 0 ((2 ^ tR T - 1 : Nat) : Int)), (60, pm_upd (pm_ct M 60) 0 ((2 ^ tC T - 1 : Nat) : Int))]) (M := M) lk_99_19 (lay2.ay (by decide) rfl) (by omega) (j := 0) (by omega) rfl ?_
  refine g_aload_n lk_99_20 rfl ?_
  refine g_getfield lk_99_21 rfl (lay4.on (by decide) rfl) (v := ((61 : Nat) : Int)) (lay4.rf rfl) ?_
  refine g_iconst lk_99_24 ?_
  refine g_iconst lk_99_25 ?_
  have lay5 : Lay (Mu [(59, pm_upd (pm_ct M 59) 0 ((2 ^ tR T - 1 : Nat) : Int)), (60, pm_upd (pm_ct M 60) 0 ((2 ^ tC T - 1 : Nat) : Int)), (61, pm_upd (pm_ct M 61) 0 0)] M) := lay4.muA (l := [(59, pm_upd (pm_ct M 59) 0 ((2 ^ tR T - 1 : Nat) : Int)), (60, pm_upd (pm_ct M 60) 0 ((2 ^ tC T - 1 : Nat) : Int))]) (a := 61) (f := pm_upd (pm_ct M 61) 0 0) rfl rfl
  refine m_iastore (u := [(59, pm_upd (pm_ct M 59) 0 ((2 ^ tR T - 1 : Nat) : Int)), (60, pm_upd (pm_ct M 60) 0 ((2 ^ tC T - 1 : Nat) : Int))]) (u' := [(59, pm_upd (pm_ct M 59) 0 ((2 ^ tR T - 1 : Nat) : Int)), (60, pm_upd (pm_ct M 60) 0 ((2 ^ tC T - 1 : Nat) : Int)), (61, pm_upd (pm_ct M 61) 0 0)]) (M := M) lk_99_26 (lay4.ay (by decide) rfl) (by omega) (j := 0) (by omega) rfl ?_
  refine g_aload_n lk_99_27 rfl ?_
  refine g_getfield lk_99_28 rfl (lay5.on (by decide) rfl) (v := ((62 : Nat) : Int)) (lay5.rf rfl) ?_
  refine g_iconst lk_99_31 ?_
  refine g_iconst lk_99_32 ?_
  have lay6 : Lay (Mu [(59, pm_upd (pm_ct M 59) 0 ((2 ^ tR T - 1 : Nat) : Int)), (60, pm_upd (pm_ct M 60) 0 ((2 ^ tC T - 1 : Nat) : Int)), (61, pm_upd (pm_ct M 61) 0 0), (62, pm_upd (pm_ct M 62) 0 0)] M) := lay5.muA (l := [(59, pm_upd (pm_ct M 59) 0 ((2 ^ tR T - 1 : Nat) : Int)), (60, pm_upd (pm_ct M 60) 0 ((2 ^ tC T - 1 : Nat) : Int)), (61, pm_upd (pm_ct M 61) 0 0)]) (a := 62) (f := pm_upd (pm_ct M 62) 0 0) rfl rfl
  refine m_iastore (u := [(59, pm_upd (pm_ct M 59) 0 ((2 ^ tR T - 1 : Nat) : Int)), (60, pm_upd (pm_ct M 60) 0 ((2 ^ tC T - 1 : Nat) : Int)), (61, pm_upd (pm_ct M 61) 0 0)]) (u' := [(59, pm_upd (pm_ct M 59) 0 ((2 ^ tR T - 1 : Nat) : Int)), (60, pm_upd (pm_ct M 60) 0 ((2 ^ tC T - 1 : Nat) : Int)), (61, pm_upd (pm_ct M 61) 0 0), (62, pm_upd (pm_ct M 62) 0 0)]) (M := M) lk_99_33 (lay5.ay (by decide) rfl) (by omega) (j := 0) (by omega) rfl ?_
  refine g_aload_n lk_99_34 rfl ?_
  refine g_getfield lk_99_35 rfl (lay6.on (by decide) rfl) (v := ((63 : Nat) : Int)) (lay6.rf rfl) ?_
  refine g_iconst lk_99_38 ?_
  refine g_iconst lk_99_39 ?_
  have lay7 : Lay (Mu [(59, pm_upd (pm_ct M 59) 0 ((2 ^ tR T - 1 : Nat) : Int)), (60, pm_upd (pm_ct M 60) 0 ((2 ^ tC T - 1 : Nat) : Int)), (61, pm_upd (pm_ct M 61) 0 0), (62, pm_upd (pm_ct M 62) 0 0), (63, pm_upd (pm_ct M 63) 0 0)] M) := lay6.muA (l := [(59, pm_upd (pm_ct M 59) 0 ((2 ^ tR T - 1 : Nat) : Int)), (60, pm_upd (pm_ct M 60) 0 ((2 ^ tC T - 1 : Nat) : Int)), (61, pm_upd (pm_ct M 61) 0 0), (62, pm_upd (pm_ct M 62) 0 0)]) (a := 63) (f := pm_upd (pm_ct M 63) 0 0) rfl rfl
  refine m_iastore (u := [(59, pm_upd (pm_ct M 59) 0 ((2 ^ tR T - 1 : Nat) : Int)), (60, pm_upd (pm_ct M 60) 0 ((2 ^ tC T - 1 : Nat) : Int)), (61, pm_upd (pm_ct M 61) 0 0), (62, pm_upd (pm_ct M 62) 0 0)]) (u' := [(59, pm_upd (pm_ct M 59) 0 ((2 ^ tR T - 1 : Nat) : Int)), (60, pm_upd (pm_ct M 60) 0 ((2 ^ tC T - 1 : Nat) : Int)), (61, pm_upd (pm_ct M 61) 0 0), (62, pm_upd (pm_ct M 62) 0 0), (63, pm_upd (pm_ct M 63) 0 0)]) (M := M) lk_99_40 (lay6.ay (by decide) rfl) (by omega) (j := 0) (by omega) rfl ?_
  refine g_aload_n lk_99_41 rfl ?_
  refine g_getfield lk_99_42 rfl (lay7.on (by decide) rfl) (v := ((64 : Nat) : Int)) (lay7.rf rfl) ?_
  refine g_iconst lk_99_45 ?_
  refine g_iconst lk_99_46 ?_
  have lay8 : Lay (Mu [(59, pm_upd (pm_ct M 59) 0 ((2 ^ tR T - 1 : Nat) : Int)), (60, pm_upd (pm_ct M 60) 0 ((2 ^ tC T - 1 : Nat) : Int)), (61, pm_upd (pm_ct M 61) 0 0), (62, pm_upd (pm_ct M 62) 0 0), (63, pm_upd (pm_ct M 63) 0 0), (64, pm_upd (pm_ct M 64) 0 0)] M) := lay7.muA (l := [(59, pm_upd (pm_ct M 59) 0 ((2 ^ tR T - 1 : Nat) : Int)), (60, pm_upd (pm_ct M 60) 0 ((2 ^ tC T - 1 : Nat) : Int)), (61, pm_upd (pm_ct M 61) 0 0), (62, pm_upd (pm_ct M 62) 0 0), (63, pm_upd (pm_ct M 63) 0 0)]) (a := 64) (f := pm_upd (pm_ct M 64) 0 0) rfl rfl
  refine m_iastore (u := [(59, pm_upd (pm_ct M 59) 0 ((2 ^ tR T - 1 : Nat) : Int)), (60, pm_upd (pm_ct M 60) 0 ((2 ^ tC T - 1 : Nat) : Int)), (61, pm_upd (pm_ct M 61) 0 0), (62, pm_upd (pm_ct M 62) 0 0), (63, pm_upd (pm_ct M 63) 0 0)]) (u' := [(59, pm_upd (pm_ct M 59) 0 ((2 ^ tR T - 1 : Nat) : Int)), (60, pm_upd (pm_ct M 60) 0 ((2 ^ tC T - 1 : Nat) : Int)), (61, pm_upd (pm_ct M 61) 0 0), (62, pm_upd (pm_ct M 62) 0 0), (63, pm_upd (pm_ct M 63) 0 0), (64, pm_upd (pm_ct M 64) 0 0)]) (M := M) lk_99_47 (lay7.ay (by decide) rfl) (by omega) (j := 0) (by omega) rfl ?_
  refine g_iconst lk_99_48 ?_
  refine g_istore_n (ls' := [(2, ((54 : Nat) : Int)), (2, ((24 : Nat) : Int)), (0, 0)]) lk_99_49 rfl rfl ?_
  refine loop l 0 _ (by omega) lay8 (Fr.mu _ _ rfl) ⟨g0 (g := pm_ct M 59) (by rw [Mu_ct]; rfl), g0 (g := pm_ct M 60) (by rw [Mu_ct]; rfl), g0 (g := pm_ct M 61) (by rw [Mu_ct]; rfl), g0 (g := pm_ct M 62) (by rw [Mu_ct]; rfl), g0 (g := pm_ct M 63) (by rw [Mu_ct]; rfl), g0 (g := pm_ct M 64) (by rw [Mu_ct]; rfl)⟩
set_option maxHeartbeats 4000000 in
theorem c_Told_handDown1 {d mc ms : Nat} {M : pm_M} (lay0 : Lay M) {T : Tab} (hT : TabOK T) (hM : TbAt M 24 T) {l x s k q : Nat} {b : Bool} {z : Int} {e : Dt} (hct : pm_ct M 66 3 = (l : Int)) (l31 : l ≤ 31) (hkq : k < q) (hql : q < l) (hx : pm_ct M 67 k = (x : Int)) (x12 : x = 1 ∨ x = 2) (hz : ∀ a : Nat, a < 64 → pm_and (a : Int) z = ((ctS b a s : Nat) : Int)) (he : R6 M 65 k e) (e1 : e.1 < 64) (e2 : e.2.1 < 64) (e6 : e.2.2.2.2.2 ≤ 2) :
    pm_E (d + 1) 100 [(2, ((65 : Nat) : Int)), (0, (k : Int)), (0, (q : Int)), (0, z), (2, ((24 : Nat) : Int))] M mc ms (fun ρ M' => ρ = none ∧ Lay M' ∧ Fr [70, 71, 72, 73, 74, 75] M M' ∧ U6 M M' 65 q (dStp T x s b e)) := by
  obtain ⟨r1, r2, r3, r4, r5, r6⟩ := he
  have z1 := hz _ e1
  have z2 := hz _ e2
  obtain ⟨_, _, m3, m4, _⟩ := id hM
  have tt : tu e.2.2.2.2.2 x = if e.2.2.2.2.2 = 0 then 0 else if e.2.2.2.2.2 = x then 0 else 1 := rfl
  obtain ⟨y, hy⟩ : ∃ y, y = e.2.2.2.2.2 := ⟨_, rfl⟩
  rw [← hy] at e6 r6 tt
  have fin : ∀ (N : pm_M) (u5 u6 u7 u8 u9 u10 : Int), N = Mu [(70, pm_upd (pm_ct M 70) q u5), (71, pm_upd (pm_ct M 71) q u6), (72, pm_upd (pm_ct M 72) q u7), (73, pm_upd (pm_ct M 73) q u8), (74, pm_upd (pm_ct M 74) q u9), (75, pm_upd (pm_ct M 75) q u10)] M → Lay N → u5 = ((dStp T x s b e).1 : Int) → u6 = ((dStp T x s b e).2.1 : Int) → u7 = ((e.2.2.1 + 1 : Nat) : Int) → u8 = ((e.2.2.2.1 + prK T x : Nat) : Int) → u9 = ((e.2.2.2.2.1 + tu e.2.2.2.2.2 x : Nat) : Int) → u10 = (x : Int) → ((none : Option pm_V) = none ∧ Lay N ∧ Fr [70, 71, 72, 73, 74, 75] M N ∧ U6 M N 65 q (dStp T x s b e)) := by
    intro N u5 u6 u7 u8 u9 u10 hN lN a1 a2 a3 a4 a5 a6
    rw [hN] at lN ⊢
    refine ⟨rfl, lN, Fr.mu _ _ rfl, ?_, ?_, ?_, ?_, ?_, ?_⟩
    · rw [Mu_ct, ← a1]; rfl
    · rw [Mu_ct, ← a2]; rfl
    · rw [Mu_ct, show ((dStp T x s b e).2.2.1 : Int) = u7 from a3.symm]; rfl
    · rw [Mu_ct, show ((dStp T x s b e).2.2.2.1 : Int) = u8 from a4.symm]; rfl
    · rw [Mu_ct, show ((dStp T x s b e).2.2.2.2.1 : Int) = u9 from a5.symm]; rfl
    · rw [Mu_ct, show ((dStp T x s b e).2.2.2.2.2 : Int) = u10 from a6.symm]; rfl
  show Wp (d + 1) 100 0 [(2, ((65 : Nat) : Int)), (0, (k : Int)), (0, (q : Int)), (0, z), (2, ((24 : Nat) : Int)), (9, 0), (9, 0)] [] M mc ms _
  rcases x12 with hx1 | hx1
  · rw [hx1] at hx tt fin ⊢
    have hx' : pm_ct M 67 k = 1 := hx
    have d1 : (dStp T 1 s b e).1 = ctS b e.1 s := rfl
    have d2 : (dStp T 1 s b e).2.1 = e.2.1 := rfl
    have p1 : prK T 1 = tA T := rfl
    rw [← hy, tt] at fin
    refine g_iload_n lk_100_0 rfl ?_
    refine g_iload_n lk_100_1 rfl ?_
    refine g_icmp (t := 16) lk_100_2 rfl (by first | (unfold pm_inI; omega) | exact pm_and_in _ _ | exact pm_shr_in _ _ | exact pm_or_in _ _ | exact pm_xor_in _ _ | exact pm_shl_in _ _ | exact pm_cmp_in _ _ | exact pm_b8_in _ | (unfold pm_inI; split <;> omega)) (by first | (unfold pm_inI; omega) | exact pm_and_in _ _ | exact pm_shr_in _ _ | exact pm_or_in _ _ | exact pm_xor_in _ _ | exact pm_shl_in _ _ | exact pm_cmp_in _ _ | exact pm_b8_in _ | (unfold pm_inI; split <;> omega)) (fun h1 => ?_) (fun h1 => ?_)
    · replace h1 : (q : Int) ≤ (k : Int) := h1
      omega
    · replace h1 : ¬ ((q : Int) ≤ (k : Int)) := h1
      refine g_iload_n lk_100_5 rfl ?_
      refine g_aload_n lk_100_6 rfl ?_
      refine g_getfield lk_100_7 rfl (lay0.on (by decide) rfl) (v := ((66 : Nat) : Int)) (lay0.rf rfl) ?_
      refine m_getfield (u := []) (M := M) lk_100_10 rfl (lay0.on (by decide) rfl) (v := (l : Int)) hct ?_
      refine g_icmp (t := 17) lk_100_13 rfl (by first | (unfold pm_inI; omega) | exact pm_and_in _ _ | exact pm_shr_in _ _ | exact pm_or_in _ _ | exact pm_xor_in _ _ | exact pm_shl_in _ _ | exact pm_cmp_in _ _ | exact pm_b8_in _ | (unfold pm_inI; split <;> omega)) (by first | (unfold pm_inI; omega) | exact pm_and_in _ _ | exact pm_shr_in _ _ | exact pm_or_in _ _ | exact pm_xor_in _ _ | exact pm_shl_in _ _ | exact pm_cmp_in _ _ | exact pm_b8_in _ | (unfold pm_inI; split <;> omega)) (fun h2 => ?_) (fun h2 => ?_)
      · replace h2 : (q : Int) < (l : Int) := h2
        refine g_aload_n lk_100_17 rfl ?_
        refine g_getfield lk_100_18 rfl (lay0.on (by decide) rfl) (v := ((66 : Nat) : Int)) (lay0.rf rfl) ?_
        refine g_getfield lk_100_21 rfl (lay0.on (by decide) rfl) (v := ((67 : Nat) : Int)) (lay0.rf rfl) ?_
        refine g_iload_n lk_100_24 rfl ?_
        refine m_iaload (u := []) (M := M) lk_100_25 (lay0.ay (by decide) rfl) (by omega) (j := k) (by omega) (v := 1) hx' ?_
        refine g_iconst lk_100_26 ?_
        refine g_icmp (t := 34) lk_100_27 rfl (by first | (unfold pm_inI; omega) | exact pm_and_in _ _ | exact pm_shr_in _ _ | exact pm_or_in _ _ | exact pm_xor_in _ _ | exact pm_shl_in _ _ | exact pm_cmp_in _ _ | exact pm_b8_in _ | (unfold pm_inI; split <;> omega)) (by first | (unfold pm_inI; omega) | exact pm_and_in _ _ | exact pm_shr_in _ _ | exact pm_or_in _ _ | exact pm_xor_in _ _ | exact pm_shl_in _ _ | exact pm_cmp_in _ _ | exact pm_b8_in _ | (unfold pm_inI; split <;> omega)) (fun h => absurd h (show ¬ (¬ (1 : Int) = (1 : Int)) by omega)) (fun _ => ?_)
        refine g_iconst lk_100_30 ?_
        refine g_goto (t := 35) lk_100_31 rfl ?_
        refine g_istore (ls' := [(2, ((65 : Nat) : Int)), (0, (k : Int)), (0, (q : Int)), (0, z), (2, ((24 : Nat) : Int)), (0, 1), (9, 0)]) lk_100_35 rfl rfl ?_
        refine g_aload_n lk_100_37 rfl ?_
        refine g_getfield lk_100_38 rfl (lay0.on (by decide) rfl) (v := ((70 : Nat) : Int)) (lay0.rf rfl) ?_
        refine g_iload_n lk_100_41 rfl ?_
        refine g_iload lk_100_42 rfl ?_
        refine g_if (t := 58) lk_100_44 rfl (by first | (unfold pm_inI; omega) | exact pm_and_in _ _ | exact pm_shr_in _ _ | exact pm_or_in _ _ | exact pm_xor_in _ _ | exact pm_shl_in _ _ | exact pm_cmp_in _ _ | exact pm_b8_in _ | (unfold pm_inI; split <;> omega)) (fun h => absurd h (show ¬ ((1 : Int) = (0 : Int)) by omega)) (fun _ => ?_)
        refine g_aload_n lk_100_47 rfl ?_
        refine g_getfield lk_100_48 rfl (lay0.on (by decide) rfl) (v := ((70 : Nat) : Int)) (lay0.rf rfl) ?_
        refine g_iload_n lk_100_51 rfl ?_
        refine m_iaload (u := []) (M := M) lk_100_52 (lay0.ay (by decide) rfl) (by omega) (j := k) (by omega) (v := (e.1 : Int)) r1 ?_
        refine g_iload_n lk_100_53 rfl ?_
        refine g_iand lk_100_54 ?_
        refine g_goto (t := 64) lk_100_55 rfl ?_
        have lay3 : Lay (Mu [(70, pm_upd (pm_ct M 70) q (pm_and (e.1 : Int) z))] M) := lay0.muA (l := []) (a := 70) (f := pm_upd (pm_ct M 70) q (pm_and (e.1 : Int) z)) rfl rfl
        refine m_iastore (u := []) (u' := [(70, pm_upd (pm_ct M 70) q (pm_and (e.1 : Int) z))]) (M := M) lk_100_64 (lay0.ay (by decide) rfl) (by omega) (j := q) (by omega) rfl ?_
        refine g_aload_n lk_100_65 rfl ?_
        refine g_getfield lk_100_66 rfl (lay3.on (by decide) rfl) (v := ((71 : Nat) : Int)) (lay3.rf rfl) ?_
        refine g_iload_n lk_100_69 rfl ?_
        refine g_iload lk_100_70 rfl ?_
        refine g_if (t := 84) lk_100_72 rfl (by first | (unfold pm_inI; omega) | exact pm_and_in _ _ | exact pm_shr_in _ _ | exact pm_or_in _ _ | exact pm_xor_in _ _ | exact pm_shl_in _ _ | exact pm_cmp_in _ _ | exact pm_b8_in _ | (unfold pm_inI; split <;> omega)) (fun h => absurd h (show ¬ ((1 : Int) = (0 : Int)) by omega)) (fun _ => ?_)
        refine g_aload_n lk_100_75 rfl ?_
        refine g_getfield lk_100_76 rfl (lay3.on (by decide) rfl) (v := ((71 : Nat) : Int)) (lay3.rf rfl) ?_
        refine g_iload_n lk_100_79 rfl ?_
        refine m_iaload (u := [(70, pm_upd (pm_ct M 70) q (pm_and (e.1 : Int) z))]) (M := M) lk_100_80 (lay3.ay (by decide) rfl) (by omega) (j := k) (by omega) (v := (e.2.1 : Int)) r2 ?_
        refine g_goto (t := 92) lk_100_81 rfl ?_
        have lay4 : Lay (Mu [(70, pm_upd (pm_ct M 70) q (pm_and (e.1 : Int) z)), (71, pm_upd (pm_ct M 71) q (e.2.1 : Int))] M) := lay3.muA (l := [(70, pm_upd (pm_ct M 70) q (pm_and (e.1 : Int) z))]) (a := 71) (f := pm_upd (pm_ct M 71) q (e.2.1 : Int)) rfl rfl
        refine m_iastore (u := [(70, pm_upd (pm_ct M 70) q (pm_and (e.1 : Int) z))]) (u' := [(70, pm_upd (pm_ct M 70) q (pm_and (e.1 : Int) z)), (71, pm_upd (pm_ct M 71) q (e.2.1 : Int))]) (M := M) lk_100_92 (lay3.ay (by decide) rfl) (by omega) (j := q) (by omega) rfl ?_
        refine g_aload_n lk_100_93 rfl ?_
        refine g_getfield lk_100_94 rfl (lay4.on (by decide) rfl) (v := ((72 : Nat) : Int)) (lay4.rf rfl) ?_
        refine g_iload_n lk_100_97 rfl ?_
        refine g_aload_n lk_100_98 rfl ?_
        refine g_getfield lk_100_99 rfl (lay4.on (by decide) rfl) (v := ((72 : Nat) : Int)) (lay4.rf rfl) ?_
        refine g_iload_n lk_100_102 rfl ?_
        refine m_iaload (u := [(70, pm_upd (pm_ct M 70) q (pm_and (e.1 : Int) z)), (71, pm_upd (pm_ct M 71) q (e.2.1 : Int))]) (M := M) lk_100_103 (lay4.ay (by decide) rfl) (by omega) (j := k) (by omega) (v := (e.2.2.1 : Int)) r3 ?_
        refine g_iconst lk_100_104 ?_
        refine g_iadd lk_100_105 ?_
        have lay5 : Lay (Mu [(70, pm_upd (pm_ct M 70) q (pm_and (e.1 : Int) z)), (71, pm_upd (pm_ct M 71) q (e.2.1 : Int)), (72, pm_upd (pm_ct M 72) q ((e.2.2.1 : Int) + 1))] M) := lay4.muA (l := [(70, pm_upd (pm_ct M 70) q (pm_and (e.1 : Int) z)), (71, pm_upd (pm_ct M 71) q (e.2.1 : Int))]) (a := 72) (f := pm_upd (pm_ct M 72) q ((e.2.2.1 : Int) + 1)) rfl rfl
        refine m_iastore (u := [(70, pm_upd (pm_ct M 70) q (pm_and (e.1 : Int) z)), (71, pm_upd (pm_ct M 71) q (e.2.1 : Int))]) (u' := [(70, pm_upd (pm_ct M 70) q (pm_and (e.1 : Int) z)), (71, pm_upd (pm_ct M 71) q (e.2.1 : Int)), (72, pm_upd (pm_ct M 72) q ((e.2.2.1 : Int) + 1))]) (M := M) lk_100_106 (lay4.ay (by decide) rfl) (by omega) (j := q) (by omega) rfl ?_
        refine g_aload_n lk_100_107 rfl ?_
        refine g_getfield lk_100_108 rfl (lay5.on (by decide) rfl) (v := ((73 : Nat) : Int)) (lay5.rf rfl) ?_
        refine g_iload_n lk_100_111 rfl ?_
        refine g_aload_n lk_100_112 rfl ?_
        refine g_getfield lk_100_113 rfl (lay5.on (by decide) rfl) (v := ((73 : Nat) : Int)) (lay5.rf rfl) ?_
        refine g_iload_n lk_100_116 rfl ?_
        refine m_iaload (u := [(70, pm_upd (pm_ct M 70) q (pm_and (e.1 : Int) z)), (71, pm_upd (pm_ct M 71) q (e.2.1 : Int)), (72, pm_upd (pm_ct M 72) q ((e.2.2.1 : Int) + 1))]) (M := M) lk_100_117 (lay5.ay (by decide) rfl) (by omega) (j := k) (by omega) (v := (e.2.2.2.1 : Int)) r4 ?_
        refine g_iload lk_100_118 rfl ?_
        refine g_if (t := 131) lk_100_120 rfl (by first | (unfold pm_inI; omega) | exact pm_and_in _ _ | exact pm_shr_in _ _ | exact pm_or_in _ _ | exact pm_xor_in _ _ | exact pm_shl_in _ _ | exact pm_cmp_in _ _ | exact pm_b8_in _ | (unfold pm_inI; split <;> omega)) (fun h => absurd h (show ¬ ((1 : Int) = (0 : Int)) by omega)) (fun _ => ?_)
        refine g_aload lk_100_123 rfl ?_
        refine m_getfield (u := [(70, pm_upd (pm_ct M 70) q (pm_and (e.1 : Int) z)), (71, pm_upd (pm_ct M 71) q (e.2.1 : Int)), (72, pm_upd (pm_ct M 72) q ((e.2.2.1 : Int) + 1))]) (M := M) lk_100_125 rfl (lay5.on (by decide) rfl) (v := (tA T : Int)) m3 ?_
        refine g_goto (t := 136) lk_100_128 rfl ?_
        refine g_iadd lk_100_136 ?_
        have lay6 : Lay (Mu [(70, pm_upd (pm_ct M 70) q (pm_and (e.1 : Int) z)), (71, pm_upd (pm_ct M 71) q (e.2.1 : Int)), (72, pm_upd (pm_ct M 72) q ((e.2.2.1 : Int) + 1)), (73, pm_upd (pm_ct M 73) q ((e.2.2.2.1 : Int) + (tA T : Int)))] M) := lay5.muA (l := [(70, pm_upd (pm_ct M 70) q (pm_and (e.1 : Int) z)), (71, pm_upd (pm_ct M 71) q (e.2.1 : Int)), (72, pm_upd (pm_ct M 72) q ((e.2.2.1 : Int) + 1))]) (a := 73) (f := pm_upd (pm_ct M 73) q ((e.2.2.2.1 : Int) + (tA T : Int))) rfl rfl
        refine m_iastore (u := [(70, pm_upd (pm_ct M 70) q (pm_and (e.1 : Int) z)), (71, pm_upd (pm_ct M 71) q (e.2.1 : Int)), (72, pm_upd (pm_ct M 72) q ((e.2.2.1 : Int) + 1))]) (u' := [(70, pm_upd (pm_ct M 70) q (pm_and (e.1 : Int) z)), (71, pm_upd (pm_ct M 71) q (e.2.1 : Int)), (72, pm_upd (pm_ct M 72) q ((e.2.2.1 : Int) + 1)), (73, pm_upd (pm_ct M 73) q ((e.2.2.2.1 : Int) + (tA T : Int)))]) (M := M) lk_100_137 (lay5.ay (by decide) rfl) (by omega) (j := q) (by omega) rfl ?_
        refine g_aload_n lk_100_138 rfl ?_
        refine g_getfield lk_100_139 rfl (lay6.on (by decide) rfl) (v := ((75 : Nat) : Int)) (lay6.rf rfl) ?_
        refine g_iload_n lk_100_142 rfl ?_
        refine m_iaload (u := [(70, pm_upd (pm_ct M 70) q (pm_and (e.1 : Int) z)), (71, pm_upd (pm_ct M 71) q (e.2.1 : Int)), (72, pm_upd (pm_ct M 72) q ((e.2.2.1 : Int) + 1)), (73, pm_upd (pm_ct M 73) q ((e.2.2.2.1 : Int) + (tA T : Int)))]) (M := M) lk_100_143 (lay6.ay (by decide) rfl) (by omega) (j := k) (by omega) (v := (y : Int)) r6 ?_
        refine g_if (t := 169) lk_100_144 rfl (by first | (unfold pm_inI; omega) | exact pm_and_in _ _ | exact pm_shr_in _ _ | exact pm_or_in _ _ | exact pm_xor_in _ _ | exact pm_shl_in _ _ | exact pm_cmp_in _ _ | exact pm_b8_in _ | (unfold pm_inI; split <;> omega)) (fun h7 => ?_) (fun h7 => ?_)
        · replace h7 : (y : Int) = 0 := h7
          refine g_iconst lk_100_169 ?_
          refine g_istore (ls' := [(2, ((65 : Nat) : Int)), (0, (k : Int)), (0, (q : Int)), (0, z), (2, ((24 : Nat) : Int)), (0, 1), (0, 0)]) lk_100_170 rfl rfl ?_
          refine g_aload_n lk_100_172 rfl ?_
          refine g_getfield lk_100_173 rfl (lay6.on (by decide) rfl) (v := ((74 : Nat) : Int)) (lay6.rf rfl) ?_
          refine g_iload_n lk_100_176 rfl ?_
          refine g_aload_n lk_100_177 rfl ?_
          refine g_getfield lk_100_178 rfl (lay6.on (by decide) rfl) (v := ((74 : Nat) : Int)) (lay6.rf rfl) ?_
          refine g_iload_n lk_100_181 rfl ?_
          refine m_iaload (u := [(70, pm_upd (pm_ct M 70) q (pm_and (e.1 : Int) z)), (71, pm_upd (pm_ct M 71) q (e.2.1 : Int)), (72, pm_upd (pm_ct M 72) q ((e.2.2.1 : Int) + 1)), (73, pm_upd (pm_ct M 73) q ((e.2.2.2.1 : Int) + (tA T : Int)))]) (M := M) lk_100_182 (lay6.ay (by decide) rfl) (by omega) (j := k) (by omega) (v := (e.2.2.2.2.1 : Int)) r5 ?_
          refine g_iload lk_100_183 rfl ?_
          refine g_if (t := 192) lk_100_185 rfl (by first | (unfold pm_inI; omega) | exact pm_and_in _ _ | exact pm_shr_in _ _ | exact pm_or_in _ _ | exact pm_xor_in _ _ | exact pm_shl_in _ _ | exact pm_cmp_in _ _ | exact pm_b8_in _ | (unfold pm_inI; split <;> omega)) (fun _ => ?_) (fun h => absurd (show (0 : Int) = (0 : Int) by omega) h)
          refine g_iconst lk_100_192 ?_
          refine g_iadd lk_100_193 ?_
          have lay8 : Lay (Mu [(70, pm_upd (pm_ct M 70) q (pm_and (e.1 : Int) z)), (71, pm_upd (pm_ct M 71) q (e.2.1 : Int)), (72, pm_upd (pm_ct M 72) q ((e.2.2.1 : Int) + 1)), (73, pm_upd (pm_ct M 73) q ((e.2.2.2.1 : Int) + (tA T : Int))), (74, pm_upd (pm_ct M 74) q ((e.2.2.2.2.1 : Int) + 0))] M) := lay6.muA (l := [(70, pm_upd (pm_ct M 70) q (pm_and (e.1 : Int) z)), (71, pm_upd (pm_ct M 71) q (e.2.1 : Int)), (72, pm_upd (pm_ct M 72) q ((e.2.2.1 : Int) + 1)), (73, pm_upd (pm_ct M 73) q ((e.2.2.2.1 : Int) + (tA T : Int)))]) (a := 74) (f := pm_upd (pm_ct M 74) q ((e.2.2.2.2.1 : Int) + 0)) rfl rfl
          refine m_iastore (u := [(70, pm_upd (pm_ct M 70) q (pm_and (e.1 : Int) z)), (71, pm_upd (pm_ct M 71) q (e.2.1 : Int)), (72, pm_upd (pm_ct M 72) q ((e.2.2.1 : Int) + 1)), (73, pm_upd (pm_ct M 73) q ((e.2.2.2.1 : Int) + (tA T : Int)))]) (u' := [(70, pm_upd (pm_ct M 70) q (pm_and (e.1 : Int) z)), (71, pm_upd (pm_ct M 71) q (e.2.1 : Int)), (72, pm_upd (pm_ct M 72) q ((e.2.2.1 : Int) + 1)), (73, pm_upd (pm_ct M 73) q ((e.2.2.2.1 : Int) + (tA T : Int))), (74, pm_upd (pm_ct M 74) q ((e.2.2.2.2.1 : Int) + 0))]) (M := M) lk_100_194 (lay6.ay (by decide) rfl) (by omega) (j := q) (by omega) rfl ?_
          refine g_aload_n lk_100_195 rfl ?_
          refine g_getfield lk_100_196 rfl (lay8.on (by decide) rfl) (v := ((75 : Nat) : Int)) (lay8.rf rfl) ?_
          refine g_iload_n lk_100_199 rfl ?_
          refine g_aload_n lk_100_200 rfl ?_
          refine g_getfield lk_100_201 rfl (lay8.on (by decide) rfl) (v := ((66 : Nat) : Int)) (lay8.rf rfl) ?_
          refine g_getfield lk_100_204 rfl (lay8.on (by decide) rfl) (v := ((67 : Nat) : Int)) (lay8.rf rfl) ?_
          refine g_iload_n lk_100_207 rfl ?_
          refine m_iaload (u := [(70, pm_upd (pm_ct M 70) q (pm_and (e.1 : Int) z)), (71, pm_upd (pm_ct M 71) q (e.2.1 : Int)), (72, pm_upd (pm_ct M 72) q ((e.2.2.1 : Int) + 1)), (73, pm_upd (pm_ct M 73) q ((e.2.2.2.1 : Int) + (tA T : Int))), (74, pm_upd (pm_ct M 74) q ((e.2.2.2.2.1 : Int) + 0))]) (M := M) lk_100_208 (lay8.ay (by decide) rfl) (by omega) (j := k) (by omega) (v := 1) hx' ?_
          have lay9 : Lay (Mu [(70, pm_upd (pm_ct M 70) q (pm_and (e.1 : Int) z)), (71, pm_upd (pm_ct M 71) q (e.2.1 : Int)), (72, pm_upd (pm_ct M 72) q ((e.2.2.1 : Int) + 1)), (73, pm_upd (pm_ct M 73) q ((e.2.2.2.1 : Int) + (tA T : Int))), (74, pm_upd (pm_ct M 74) q ((e.2.2.2.2.1 : Int) + 0)), (75, pm_upd (pm_ct M 75) q 1)] M) := lay8.muA (l := [(70, pm_upd (pm_ct M 70) q (pm_and (e.1 : Int) z)), (71, pm_upd (pm_ct M 71) q (e.2.1 : Int)), (72, pm_upd (pm_ct M 72) q ((e.2.2.1 : Int) + 1)), (73, pm_upd (pm_ct M 73) q ((e.2.2.2.1 : Int) + (tA T : Int))), (74, pm_upd (pm_ct M 74) q ((e.2.2.2.2.1 : Int) + 0))]) (a := 75) (f := pm_upd (pm_ct M 75) q 1) rfl rfl
          refine m_iastore (u := [(70, pm_upd (pm_ct M 70) q (pm_and (e.1 : Int) z)), (71, pm_upd (pm_ct M 71) q (e.2.1 : Int)), (72, pm_upd (pm_ct M 72) q ((e.2.2.1 : Int) + 1)), (73, pm_upd (pm_ct M 73) q ((e.2.2.2.1 : Int) + (tA T : Int))), (74, pm_upd (pm_ct M 74) q ((e.2.2.2.2.1 : Int) + 0))]) (u' := [(70, pm_upd (pm_ct M 70) q (pm_and (e.1 : Int) z)), (71, pm_upd (pm_ct M 71) q (e.2.1 : Int)), (72, pm_upd (pm_ct M 72) q ((e.2.2.1 : Int) + 1)), (73, pm_upd (pm_ct M 73) q ((e.2.2.2.1 : Int) + (tA T : Int))), (74, pm_upd (pm_ct M 74) q ((e.2.2.2.2.1 : Int) + 0)), (75, pm_upd (pm_ct M 75) q 1)]) (M := M) lk_100_209 (lay8.ay (by decide) rfl) (by omega) (j := q) (by omega) rfl ?_
          refine g_return lk_100_210 ?_
          exact fin _ _ _ _ _ _ _ rfl lay9 (by rw [z1, d1]) (by rw [d2]) (by omega) (by rw [p1]; omega) (by rw [if_pos (by omega)]; omega) rfl
        · replace h7 : ¬ ((y : Int) = 0) := h7
          refine g_aload_n lk_100_147 rfl ?_
          refine g_getfield lk_100_148 rfl (lay6.on (by decide) rfl) (v := ((75 : Nat) : Int)) (lay6.rf rfl) ?_
          refine g_iload_n lk_100_151 rfl ?_
          refine m_iaload (u := [(70, pm_upd (pm_ct M 70) q (pm_and (e.1 : Int) z)), (71, pm_upd (pm_ct M 71) q (e.2.1 : Int)), (72, pm_upd (pm_ct M 72) q ((e.2.2.1 : Int) + 1)), (73, pm_upd (pm_ct M 73) q ((e.2.2.2.1 : Int) + (tA T : Int)))]) (M := M) lk_100_152 (lay6.ay (by decide) rfl) (by omega) (j := k) (by omega) (v := (y : Int)) r6 ?_
          refine g_aload_n lk_100_153 rfl ?_
          refine g_getfield lk_100_154 rfl (lay6.on (by decide) rfl) (v := ((66 : Nat) : Int)) (lay6.rf rfl) ?_
          refine g_getfield lk_100_157 rfl (lay6.on (by decide) rfl) (v := ((67 : Nat) : Int)) (lay6.rf rfl) ?_
          refine g_iload_n lk_100_160 rfl ?_
          refine m_iaload (u := [(70, pm_upd (pm_ct M 70) q (pm_and (e.1 : Int) z)), (71, pm_upd (pm_ct M 71) q (e.2.1 : Int)), (72, pm_upd (pm_ct M 72) q ((e.2.2.1 : Int) + 1)), (73, pm_upd (pm_ct M 73) q ((e.2.2.2.1 : Int) + (tA T : Int)))]) (M := M) lk_100_161 (lay6.ay (by decide) rfl) (by omega) (j := k) (by omega) (v := 1) hx' ?_
          refine g_icmp (t := 169) lk_100_162 rfl (by first | (unfold pm_inI; omega) | exact pm_and_in _ _ | exact pm_shr_in _ _ | exact pm_or_in _ _ | exact pm_xor_in _ _ | exact pm_shl_in _ _ | exact pm_cmp_in _ _ | exact pm_b8_in _ | (unfold pm_inI; split <;> omega)) (by first | (unfold pm_inI; omega) | exact pm_and_in _ _ | exact pm_shr_in _ _ | exact pm_or_in _ _ | exact pm_xor_in _ _ | exact pm_shl_in _ _ | exact pm_cmp_in _ _ | exact pm_b8_in _ | (unfold pm_inI; split <;> omega)) (fun h10 => ?_) (fun h10 => ?_)
          · replace h10 : (y : Int) = 1 := h10
            refine g_iconst lk_100_169 ?_
            refine g_istore (ls' := [(2, ((65 : Nat) : Int)), (0, (k : Int)), (0, (q : Int)), (0, z), (2, ((24 : Nat) : Int)), (0, 1), (0, 0)]) lk_100_170 rfl rfl ?_
            refine g_aload_n lk_100_172 rfl ?_
            refine g_getfield lk_100_173 rfl (lay6.on (by decide) rfl) (v := ((74 : Nat) : Int)) (lay6.rf rfl) ?_
            refine g_iload_n lk_100_176 rfl ?_
            refine g_aload_n lk_100_177 rfl ?_
            refine g_getfield lk_100_178 rfl (lay6.on (by decide) rfl) (v := ((74 : Nat) : Int)) (lay6.rf rfl) ?_
            refine g_iload_n lk_100_181 rfl ?_
            refine m_iaload (u := [(70, pm_upd (pm_ct M 70) q (pm_and (e.1 : Int) z)), (71, pm_upd (pm_ct M 71) q (e.2.1 : Int)), (72, pm_upd (pm_ct M 72) q ((e.2.2.1 : Int) + 1)), (73, pm_upd (pm_ct M 73) q ((e.2.2.2.1 : Int) + (tA T : Int)))]) (M := M) lk_100_182 (lay6.ay (by decide) rfl) (by omega) (j := k) (by omega) (v := (e.2.2.2.2.1 : Int)) r5 ?_
            refine g_iload lk_100_183 rfl ?_
            refine g_if (t := 192) lk_100_185 rfl (by first | (unfold pm_inI; omega) | exact pm_and_in _ _ | exact pm_shr_in _ _ | exact pm_or_in _ _ | exact pm_xor_in _ _ | exact pm_shl_in _ _ | exact pm_cmp_in _ _ | exact pm_b8_in _ | (unfold pm_inI; split <;> omega)) (fun _ => ?_) (fun h => absurd (show (0 : Int) = (0 : Int) by omega) h)
            refine g_iconst lk_100_192 ?_
            refine g_iadd lk_100_193 ?_
            have lay11 : Lay (Mu [(70, pm_upd (pm_ct M 70) q (pm_and (e.1 : Int) z)), (71, pm_upd (pm_ct M 71) q (e.2.1 : Int)), (72, pm_upd (pm_ct M 72) q ((e.2.2.1 : Int) + 1)), (73, pm_upd (pm_ct M 73) q ((e.2.2.2.1 : Int) + (tA T : Int))), (74, pm_upd (pm_ct M 74) q ((e.2.2.2.2.1 : Int) + 0))] M) := lay6.muA (l := [(70, pm_upd (pm_ct M 70) q (pm_and (e.1 : Int) z)), (71, pm_upd (pm_ct M 71) q (e.2.1 : Int)), (72, pm_upd (pm_ct M 72) q ((e.2.2.1 : Int) + 1)), (73, pm_upd (pm_ct M 73) q ((e.2.2.2.1 : Int) + (tA T : Int)))]) (a := 74) (f := pm_upd (pm_ct M 74) q ((e.2.2.2.2.1 : Int) + 0)) rfl rfl
            refine m_iastore (u := [(70, pm_upd (pm_ct M 70) q (pm_and (e.1 : Int) z)), (71, pm_upd (pm_ct M 71) q (e.2.1 : Int)), (72, pm_upd (pm_ct M 72) q ((e.2.2.1 : Int) + 1)), (73, pm_upd (pm_ct M 73) q ((e.2.2.2.1 : Int) + (tA T : Int)))]) (u' := [(70, pm_upd (pm_ct M 70) q (pm_and (e.1 : Int) z)), (71, pm_upd (pm_ct M 71) q (e.2.1 : Int)), (72, pm_upd (pm_ct M 72) q ((e.2.2.1 : Int) + 1)), (73, pm_upd (pm_ct M 73) q ((e.2.2.2.1 : Int) + (tA T : Int))), (74, pm_upd (pm_ct M 74) q ((e.2.2.2.2.1 : Int) + 0))]) (M := M) lk_100_194 (lay6.ay (by decide) rfl) (by omega) (j := q) (by omega) rfl ?_
            refine g_aload_n lk_100_195 rfl ?_
            refine g_getfield lk_100_196 rfl (lay11.on (by decide) rfl) (v := ((75 : Nat) : Int)) (lay11.rf rfl) ?_
            refine g_iload_n lk_100_199 rfl ?_
            refine g_aload_n lk_100_200 rfl ?_
            refine g_getfield lk_100_201 rfl (lay11.on (by decide) rfl) (v := ((66 : Nat) : Int)) (lay11.rf rfl) ?_
            refine g_getfield lk_100_204 rfl (lay11.on (by decide) rfl) (v := ((67 : Nat) : Int)) (lay11.rf rfl) ?_
            refine g_iload_n lk_100_207 rfl ?_
            refine m_iaload (u := [(70, pm_upd (pm_ct M 70) q (pm_and (e.1 : Int) z)), (71, pm_upd (pm_ct M 71) q (e.2.1 : Int)), (72, pm_upd (pm_ct M 72) q ((e.2.2.1 : Int) + 1)), (73, pm_upd (pm_ct M 73) q ((e.2.2.2.1 : Int) + (tA T : Int))), (74, pm_upd (pm_ct M 74) q ((e.2.2.2.2.1 : Int) + 0))]) (M := M) lk_100_208 (lay11.ay (by decide) rfl) (by omega) (j := k) (by omega) (v := 1) hx' ?_
            have lay12 : Lay (Mu [(70, pm_upd (pm_ct M 70) q (pm_and (e.1 : Int) z)), (71, pm_upd (pm_ct M 71) q (e.2.1 : Int)), (72, pm_upd (pm_ct M 72) q ((e.2.2.1 : Int) + 1)), (73, pm_upd (pm_ct M 73) q ((e.2.2.2.1 : Int) + (tA T : Int))), (74, pm_upd (pm_ct M 74) q ((e.2.2.2.2.1 : Int) + 0)), (75, pm_upd (pm_ct M 75) q 1)] M) := lay11.muA (l := [(70, pm_upd (pm_ct M 70) q (pm_and (e.1 : Int) z)), (71, pm_upd (pm_ct M 71) q (e.2.1 : Int)), (72, pm_upd (pm_ct M 72) q ((e.2.2.1 : Int) + 1)), (73, pm_upd (pm_ct M 73) q ((e.2.2.2.1 : Int) + (tA T : Int))), (74, pm_upd (pm_ct M 74) q ((e.2.2.2.2.1 : Int) + 0))]) (a := 75) (f := pm_upd (pm_ct M 75) q 1) rfl rfl
            refine m_iastore (u := [(70, pm_upd (pm_ct M 70) q (pm_and (e.1 : Int) z)), (71, pm_upd (pm_ct M 71) q (e.2.1 : Int)), (72, pm_upd (pm_ct M 72) q ((e.2.2.1 : Int) + 1)), (73, pm_upd (pm_ct M 73) q ((e.2.2.2.1 : Int) + (tA T : Int))), (74, pm_upd (pm_ct M 74) q ((e.2.2.2.2.1 : Int) + 0))]) (u' := [(70, pm_upd (pm_ct M 70) q (pm_and (e.1 : Int) z)), (71, pm_upd (pm_ct M 71) q (e.2.1 : Int)), (72, pm_upd (pm_ct M 72) q ((e.2.2.1 : Int) + 1)), (73, pm_upd (pm_ct M 73) q ((e.2.2.2.1 : Int) + (tA T : Int))), (74, pm_upd (pm_ct M 74) q ((e.2.2.2.2.1 : Int) + 0)), (75, pm_upd (pm_ct M 75) q 1)]) (M := M) lk_100_209 (lay11.ay (by decide) rfl) (by omega) (j := q) (by omega) rfl ?_
            refine g_return lk_100_210 ?_
            exact fin _ _ _ _ _ _ _ rfl lay12 (by rw [z1, d1]) (by rw [d2]) (by omega) (by rw [p1]; omega) (by rw [if_neg (by omega), if_pos (by omega)]; omega) rfl
          · replace h10 : ¬ ((y : Int) = 1) := h10
            refine g_iconst lk_100_165 ?_
            refine g_goto (t := 170) lk_100_166 rfl ?_
            refine g_istore (ls' := [(2, ((65 : Nat) : Int)), (0, (k : Int)), (0, (q : Int)), (0, z), (2, ((24 : Nat) : Int)), (0, 1), (0, 1)]) lk_100_170 rfl rfl ?_
            refine g_aload_n lk_100_172 rfl ?_
            refine g_getfield lk_100_173 rfl (lay6.on (by decide) rfl) (v := ((74 : Nat) : Int)) (lay6.rf rfl) ?_
            refine g_iload_n lk_100_176 rfl ?_
            refine g_aload_n lk_100_177 rfl ?_
            refine g_getfield lk_100_178 rfl (lay6.on (by decide) rfl) (v := ((74 : Nat) : Int)) (lay6.rf rfl) ?_
            refine g_iload_n lk_100_181 rfl ?_
            refine m_iaload (u := [(70, pm_upd (pm_ct M 70) q (pm_and (e.1 : Int) z)), (71, pm_upd (pm_ct M 71) q (e.2.1 : Int)), (72, pm_upd (pm_ct M 72) q ((e.2.2.1 : Int) + 1)), (73, pm_upd (pm_ct M 73) q ((e.2.2.2.1 : Int) + (tA T : Int)))]) (M := M) lk_100_182 (lay6.ay (by decide) rfl) (by omega) (j := k) (by omega) (v := (e.2.2.2.2.1 : Int)) r5 ?_
            refine g_iload lk_100_183 rfl ?_
            refine g_if (t := 192) lk_100_185 rfl (by first | (unfold pm_inI; omega) | exact pm_and_in _ _ | exact pm_shr_in _ _ | exact pm_or_in _ _ | exact pm_xor_in _ _ | exact pm_shl_in _ _ | exact pm_cmp_in _ _ | exact pm_b8_in _ | (unfold pm_inI; split <;> omega)) (fun h => absurd h (show ¬ ((1 : Int) = (0 : Int)) by omega)) (fun _ => ?_)
            refine g_iconst lk_100_188 ?_
            refine g_goto (t := 193) lk_100_189 rfl ?_
            refine g_iadd lk_100_193 ?_
            have lay13 : Lay (Mu [(70, pm_upd (pm_ct M 70) q (pm_and (e.1 : Int) z)), (71, pm_upd (pm_ct M 71) q (e.2.1 : Int)), (72, pm_upd (pm_ct M 72) q ((e.2.2.1 : Int) + 1)), (73, pm_upd (pm_ct M 73) q ((e.2.2.2.1 : Int) + (tA T : Int))), (74, pm_upd (pm_ct M 74) q ((e.2.2.2.2.1 : Int) + 1))] M) := lay6.muA (l := [(70, pm_upd (pm_ct M 70) q (pm_and (e.1 : Int) z)), (71, pm_upd (pm_ct M 71) q (e.2.1 : Int)), (72, pm_upd (pm_ct M 72) q ((e.2.2.1 : Int) + 1)), (73, pm_upd (pm_ct M 73) q ((e.2.2.2.1 : Int) + (tA T : Int)))]) (a := 74) (f := pm_upd (pm_ct M 74) q ((e.2.2.2.2.1 : Int) + 1)) rfl rfl
            refine m_iastore (u := [(70, pm_upd (pm_ct M 70) q (pm_and (e.1 : Int) z)), (71, pm_upd (pm_ct M 71) q (e.2.1 : Int)), (72, pm_upd (pm_ct M 72) q ((e.2.2.1 : Int) + 1)), (73, pm_upd (pm_ct M 73) q ((e.2.2.2.1 : Int) + (tA T : Int)))]) (u' := [(70, pm_upd (pm_ct M 70) q (pm_and (e.1 : Int) z)), (71, pm_upd (pm_ct M 71) q (e.2.1 : Int)), (72, pm_upd (pm_ct M 72) q ((e.2.2.1 : Int) + 1)), (73, pm_upd (pm_ct M 73) q ((e.2.2.2.1 : Int) + (tA T : Int))), (74, pm_upd (pm_ct M 74) q ((e.2.2.2.2.1 : Int) + 1))]) (M := M) lk_100_194 (lay6.ay (by decide) rfl) (by omega) (j := q) (by omega) rfl ?_
            refine g_aload_n lk_100_195 rfl ?_
            refine g_getfield lk_100_196 rfl (lay13.on (by decide) rfl) (v := ((75 : Nat) : Int)) (lay13.rf rfl) ?_
            refine g_iload_n lk_100_199 rfl ?_
            refine g_aload_n lk_100_200 rfl ?_
            refine g_getfield lk_100_201 rfl (lay13.on (by decide) rfl) (v := ((66 : Nat) : Int)) (lay13.rf rfl) ?_
            refine g_getfield lk_100_204 rfl (lay13.on (by decide) rfl) (v := ((67 : Nat) : Int)) (lay13.rf rfl) ?_
            refine g_iload_n lk_100_207 rfl ?_
            refine m_iaload (u := [(70, pm_upd (pm_ct M 70) q (pm_and (e.1 : Int) z)), (71, pm_upd (pm_ct M 71) q (e.2.1 : Int)), (72, pm_upd (pm_ct M 72) q ((e.2.2.1 : Int) + 1)), (73, pm_upd (pm_ct M 73) q ((e.2.2.2.1 : Int) + (tA T : Int))), (74, pm_upd (pm_ct M 74) q ((e.2.2.2.2.1 : Int) + 1))]) (M := M) lk_100_208 (lay13.ay (by decide) rfl) (by omega) (j := k) (by omega) (v := 1) hx' ?_
            have lay14 : Lay (Mu [(70, pm_upd (pm_ct M 70) q (pm_and (e.1 : Int) z)), (71, pm_upd (pm_ct M 71) q (e.2.1 : Int)), (72, pm_upd (pm_ct M 72) q ((e.2.2.1 : Int) + 1)), (73, pm_upd (pm_ct M 73) q ((e.2.2.2.1 : Int) + (tA T : Int))), (74, pm_upd (pm_ct M 74) q ((e.2.2.2.2.1 : Int) + 1)), (75, pm_upd (pm_ct M 75) q 1)] M) := lay13.muA (l := [(70, pm_upd (pm_ct M 70) q (pm_and (e.1 : Int) z)), (71, pm_upd (pm_ct M 71) q (e.2.1 : Int)), (72, pm_upd (pm_ct M 72) q ((e.2.2.1 : Int) + 1)), (73, pm_upd (pm_ct M 73) q ((e.2.2.2.1 : Int) + (tA T : Int))), (74, pm_upd (pm_ct M 74) q ((e.2.2.2.2.1 : Int) + 1))]) (a := 75) (f := pm_upd (pm_ct M 75) q 1) rfl rfl
            refine m_iastore (u := [(70, pm_upd (pm_ct M 70) q (pm_and (e.1 : Int) z)), (71, pm_upd (pm_ct M 71) q (e.2.1 : Int)), (72, pm_upd (pm_ct M 72) q ((e.2.2.1 : Int) + 1)), (73, pm_upd (pm_ct M 73) q ((e.2.2.2.1 : Int) + (tA T : Int))), (74, pm_upd (pm_ct M 74) q ((e.2.2.2.2.1 : Int) + 1))]) (u' := [(70, pm_upd (pm_ct M 70) q (pm_and (e.1 : Int) z)), (71, pm_upd (pm_ct M 71) q (e.2.1 : Int)), (72, pm_upd (pm_ct M 72) q ((e.2.2.1 : Int) + 1)), (73, pm_upd (pm_ct M 73) q ((e.2.2.2.1 : Int) + (tA T : Int))), (74, pm_upd (pm_ct M 74) q ((e.2.2.2.2.1 : Int) + 1)), (75, pm_upd (pm_ct M 75) q 1)]) (M := M) lk_100_209 (lay13.ay (by decide) rfl) (by omega) (j := q) (by omega) rfl ?_
            refine g_return lk_100_210 ?_
            exact fin _ _ _ _ _ _ _ rfl lay14 (by rw [z1, d1]) (by rw [d2]) (by omega) (by rw [p1]; omega) (by rw [if_neg (by omega), if_neg (by omega)]; omega) rfl
      · replace h2 : ¬ ((q : Int) < (l : Int)) := h2
        omega
  · rw [hx1] at hx tt fin ⊢
    have hx' : pm_ct M 67 k = 2 := hx
    have d1 : (dStp T 2 s b e).1 = e.1 := rfl
    have d2 : (dStp T 2 s b e).2.1 = ctS b e.2.1 s := rfl
    have p1 : prK T 2 = tB T := rfl
    rw [← hy, tt] at fin
    refine g_iload_n lk_100_0 rfl ?_
    refine g_iload_n lk_100_1 rfl ?_
    refine g_icmp (t := 16) lk_100_2 rfl (by first | (unfold pm_inI; omega) | exact pm_and_in _ _ | exact pm_shr_in _ _ | exact pm_or_in _ _ | exact pm_xor_in _ _ | exact pm_shl_in _ _ | exact pm_cmp_in _ _ | exact pm_b8_in _ | (unfold pm_inI; split <;> omega)) (by first | (unfold pm_inI; omega) | exact pm_and_in _ _ | exact pm_shr_in _ _ | exact pm_or_in _ _ | exact pm_xor_in _ _ | exact pm_shl_in _ _ | exact pm_cmp_in _ _ | exact pm_b8_in _ | (unfold pm_inI; split <;> omega)) (fun h1 => ?_) (fun h1 => ?_)
    · replace h1 : (q : Int) ≤ (k : Int) := h1
      omega
    · replace h1 : ¬ ((q : Int) ≤ (k : Int)) := h1
      refine g_iload_n lk_100_5 rfl ?_
      refine g_aload_n lk_100_6 rfl ?_
      refine g_getfield lk_100_7 rfl (lay0.on (by decide) rfl) (v := ((66 : Nat) : Int)) (lay0.rf rfl) ?_
      refine m_getfield (u := []) (M := M) lk_100_10 rfl (lay0.on (by decide) rfl) (v := (l : Int)) hct ?_
      refine g_icmp (t := 17) lk_100_13 rfl (by first | (unfold pm_inI; omega) | exact pm_and_in _ _ | exact pm_shr_in _ _ | exact pm_or_in _ _ | exact pm_xor_in _ _ | exact pm_shl_in _ _ | exact pm_cmp_in _ _ | exact pm_b8_in _ | (unfold pm_inI; split <;> omega)) (by first | (unfold pm_inI; omega) | exact pm_and_in _ _ | exact pm_shr_in _ _ | exact pm_or_in _ _ | exact pm_xor_in _ _ | exact pm_shl_in _ _ | exact pm_cmp_in _ _ | exact pm_b8_in _ | (unfold pm_inI; split <;> omega)) (fun h2 => ?_) (fun h2 => ?_)
      · replace h2 : (q : Int) < (l : Int) := h2
        refine g_aload_n lk_100_17 rfl ?_
        refine g_getfield lk_100_18 rfl (lay0.on (by decide) rfl) (v := ((66 : Nat) : Int)) (lay0.rf rfl) ?_
        refine g_getfield lk_100_21 rfl (lay0.on (by decide) rfl) (v := ((67 : Nat) : Int)) (lay0.rf rfl) ?_
        refine g_iload_n lk_100_24 rfl ?_
        refine m_iaload (u := []) (M := M) lk_100_25 (lay0.ay (by decide) rfl) (by omega) (j := k) (by omega) (v := 2) hx' ?_
        refine g_iconst lk_100_26 ?_
        refine g_icmp (t := 34) lk_100_27 rfl (by first | (unfold pm_inI; omega) | exact pm_and_in _ _ | exact pm_shr_in _ _ | exact pm_or_in _ _ | exact pm_xor_in _ _ | exact pm_shl_in _ _ | exact pm_cmp_in _ _ | exact pm_b8_in _ | (unfold pm_inI; split <;> omega)) (by first | (unfold pm_inI; omega) | exact pm_and_in _ _ | exact pm_shr_in _ _ | exact pm_or_in _ _ | exact pm_xor_in _ _ | exact pm_shl_in _ _ | exact pm_cmp_in _ _ | exact pm_b8_in _ | (unfold pm_inI; split <;> omega)) (fun _ => ?_) (fun h => absurd (show ¬ (2 : Int) = (1 : Int) by omega) h)
        refine g_iconst lk_100_34 ?_
        refine g_istore (ls' := [(2, ((65 : Nat) : Int)), (0, (k : Int)), (0, (q : Int)), (0, z), (2, ((24 : Nat) : Int)), (0, 0), (9, 0)]) lk_100_35 rfl rfl ?_
        refine g_aload_n lk_100_37 rfl ?_
        refine g_getfield lk_100_38 rfl (lay0.on (by decide) rfl) (v := ((70 : Nat) : Int)) (lay0.rf rfl) ?_
        refine g_iload_n lk_100_41 rfl ?_
        refine g_iload lk_100_42 rfl ?_
        refine g_if (t := 58) lk_100_44 rfl (by first | (unfold pm_inI; omega) | exact pm_and_in _ _ | exact pm_shr_in _ _ | exact pm_or_in _ _ | exact pm_xor_in _ _ | exact pm_shl_in _ _ | exact pm_cmp_in _ _ | exact pm_b8_in _ | (unfold pm_inI; split <;> omega)) (fun _ => ?_) (fun h => absurd (show (0 : Int) = (0 : Int) by omega) h)
        refine g_aload_n lk_100_58 rfl ?_
        refine g_getfield lk_100_59 rfl (lay0.on (by decide) rfl) (v := ((70 : Nat) : Int)) (lay0.rf rfl) ?_
        refine g_iload_n lk_100_62 rfl ?_
        refine m_iaload (u := []) (M := M) lk_100_63 (lay0.ay (by decide) rfl) (by omega) (j := k) (by omega) (v := (e.1 : Int)) r1 ?_
        have lay3 : Lay (Mu [(70, pm_upd (pm_ct M 70) q (e.1 : Int))] M) := lay0.muA (l := []) (a := 70) (f := pm_upd (pm_ct M 70) q (e.1 : Int)) rfl rfl
        refine m_iastore (u := []) (u' := [(70, pm_upd (pm_ct M 70) q (e.1 : Int))]) (M := M) lk_100_64 (lay0.ay (by decide) rfl) (by omega) (j := q) (by omega) rfl ?_
        refine g_aload_n lk_100_65 rfl ?_
        refine g_getfield lk_100_66 rfl (lay3.on (by decide) rfl) (v := ((71 : Nat) : Int)) (lay3.rf rfl) ?_
        refine g_iload_n lk_100_69 rfl ?_
        refine g_iload lk_100_70 rfl ?_
        refine g_if (t := 84) lk_100_72 rfl (by first | (unfold pm_inI; omega) | exact pm_and_in _ _ | exact pm_shr_in _ _ | exact pm_or_in _ _ | exact pm_xor_in _ _ | exact pm_shl_in _ _ | exact pm_cmp_in _ _ | exact pm_b8_in _ | (unfold pm_inI; split <;> omega)) (fun _ => ?_) (fun h => absurd (show (0 : Int) = (0 : Int) by omega) h)
        refine g_aload_n lk_100_84 rfl ?_
        refine g_getfield lk_100_85 rfl (lay3.on (by decide) rfl) (v := ((71 : Nat) : Int)) (lay3.rf rfl) ?_
        refine g_iload_n lk_100_88 rfl ?_
        refine m_iaload (u := [(70, pm_upd (pm_ct M 70) q (e.1 : Int))]) (M := M) lk_100_89 (lay3.ay (by decide) rfl) (by omega) (j := k) (by omega) (v := (e.2.1 : Int)) r2 ?_
        refine g_iload_n lk_100_90 rfl ?_
        refine g_iand lk_100_91 ?_
        have lay4 : Lay (Mu [(70, pm_upd (pm_ct M 70) q (e.1 : Int)), (71, pm_upd (pm_ct M 71) q (pm_and (e.2.1 : Int) z))] M) := lay3.muA (l := [(70, pm_upd (pm_ct M 70) q (e.1 : Int))]) (a := 71) (f := pm_upd (pm_ct M 71) q (pm_and (e.2.1 : Int) z)) rfl rfl
        refine m_iastore (u := [(70, pm_upd (pm_ct M 70) q (e.1 : Int))]) (u' := [(70, pm_upd (pm_ct M 70) q (e.1 : Int)), (71, pm_upd (pm_ct M 71) q (pm_and (e.2.1 : Int) z))]) (M := M) lk_100_92 (lay3.ay (by decide) rfl) (by omega) (j := q) (by omega) rfl ?_
        refine g_aload_n lk_100_93 rfl ?_
        refine g_getfield lk_100_94 rfl (lay4.on (by decide) rfl) (v := ((72 : Nat) : Int)) (lay4.rf rfl) ?_
        refine g_iload_n lk_100_97 rfl ?_
        refine g_aload_n lk_100_98 rfl ?_
        refine g_getfield lk_100_99 rfl (lay4.on (by decide) rfl) (v := ((72 : Nat) : Int)) (lay4.rf rfl) ?_
        refine g_iload_n lk_100_102 rfl ?_
        refine m_iaload (u := [(70, pm_upd (pm_ct M 70) q (e.1 : Int)), (71, pm_upd (pm_ct M 71) q (pm_and (e.2.1 : Int) z))]) (M := M) lk_100_103 (lay4.ay (by decide) rfl) (by omega) (j := k) (by omega) (v := (e.2.2.1 : Int)) r3 ?_
        refine g_iconst lk_100_104 ?_
        refine g_iadd lk_100_105 ?_
        have lay5 : Lay (Mu [(70, pm_upd (pm_ct M 70) q (e.1 : Int)), (71, pm_upd (pm_ct M 71) q (pm_and (e.2.1 : Int) z)), (72, pm_upd (pm_ct M 72) q ((e.2.2.1 : Int) + 1))] M) := lay4.muA (l := [(70, pm_upd (pm_ct M 70) q (e.1 : Int)), (71, pm_upd (pm_ct M 71) q (pm_and (e.2.1 : Int) z))]) (a := 72) (f := pm_upd (pm_ct M 72) q ((e.2.2.1 : Int) + 1)) rfl rfl
        refine m_iastore (u := [(70, pm_upd (pm_ct M 70) q (e.1 : Int)), (71, pm_upd (pm_ct M 71) q (pm_and (e.2.1 : Int) z))]) (u' := [(70, pm_upd (pm_ct M 70) q (e.1 : Int)), (71, pm_upd (pm_ct M 71) q (pm_and (e.2.1 : Int) z)), (72, pm_upd (pm_ct M 72) q ((e.2.2.1 : Int) + 1))]) (M := M) lk_100_106 (lay4.ay (by decide) rfl) (by omega) (j := q) (by omega) rfl ?_
        refine g_aload_n lk_100_107 rfl ?_
        refine g_getfield lk_100_108 rfl (lay5.on (by decide) rfl) (v := ((73 : Nat) : Int)) (lay5.rf rfl) ?_
        refine g_iload_n lk_100_111 rfl ?_
        refine g_aload_n lk_100_112 rfl ?_
        refine g_getfield lk_100_113 rfl (lay5.on (by decide) rfl) (v := ((73 : Nat) : Int)) (lay5.rf rfl) ?_
        refine g_iload_n lk_100_116 rfl ?_
        refine m_iaload (u := [(70, pm_upd (pm_ct M 70) q (e.1 : Int)), (71, pm_upd (pm_ct M 71) q (pm_and (e.2.1 : Int) z)), (72, pm_upd (pm_ct M 72) q ((e.2.2.1 : Int) + 1))]) (M := M) lk_100_117 (lay5.ay (by decide) rfl) (by omega) (j := k) (by omega) (v := (e.2.2.2.1 : Int)) r4 ?_
        refine g_iload lk_100_118 rfl ?_
        refine g_if (t := 131) lk_100_120 rfl (by first | (unfold pm_inI; omega) | exact pm_and_in _ _ | exact pm_shr_in _ _ | exact pm_or_in _ _ | exact pm_xor_in _ _ | exact pm_shl_in _ _ | exact pm_cmp_in _ _ | exact pm_b8_in _ | (unfold pm_inI; split <;> omega)) (fun _ => ?_) (fun h => absurd (show (0 : Int) = (0 : Int) by omega) h)
        refine g_aload lk_100_131 rfl ?_
        refine m_getfield (u := [(70, pm_upd (pm_ct M 70) q (e.1 : Int)), (71, pm_upd (pm_ct M 71) q (pm_and (e.2.1 : Int) z)), (72, pm_upd (pm_ct M 72) q ((e.2.2.1 : Int) + 1))]) (M := M) lk_100_133 rfl (lay5.on (by decide) rfl) (v := (tB T : Int)) m4 ?_
        refine g_iadd lk_100_136 ?_
        have lay6 : Lay (Mu [(70, pm_upd (pm_ct M 70) q (e.1 : Int)), (71, pm_upd (pm_ct M 71) q (pm_and (e.2.1 : Int) z)), (72, pm_upd (pm_ct M 72) q ((e.2.2.1 : Int) + 1)), (73, pm_upd (pm_ct M 73) q ((e.2.2.2.1 : Int) + (tB T : Int)))] M) := lay5.muA (l := [(70, pm_upd (pm_ct M 70) q (e.1 : Int)), (71, pm_upd (pm_ct M 71) q (pm_and (e.2.1 : Int) z)), (72, pm_upd (pm_ct M 72) q ((e.2.2.1 : Int) + 1))]) (a := 73) (f := pm_upd (pm_ct M 73) q ((e.2.2.2.1 : Int) + (tB T : Int))) rfl rfl
        refine m_iastore (u := [(70, pm_upd (pm_ct M 70) q (e.1 : Int)), (71, pm_upd (pm_ct M 71) q (pm_and (e.2.1 : Int) z)), (72, pm_upd (pm_ct M 72) q ((e.2.2.1 : Int) + 1))]) (u' := [(70, pm_upd (pm_ct M 70) q (e.1 : Int)), (71, pm_upd (pm_ct M 71) q (pm_and (e.2.1 : Int) z)), (72, pm_upd (pm_ct M 72) q ((e.2.2.1 : Int) + 1)), (73, pm_upd (pm_ct M 73) q ((e.2.2.2.1 : Int) + (tB T : Int)))]) (M := M) lk_100_137 (lay5.ay (by decide) rfl) (by omega) (j := q) (by omega) rfl ?_
        refine g_aload_n lk_100_138 rfl ?_
        refine g_getfield lk_100_139 rfl (lay6.on (by decide) rfl) (v := ((75 : Nat) : Int)) (lay6.rf rfl) ?_
        refine g_iload_n lk_100_142 rfl ?_
        refine m_iaload (u := [(70, pm_upd (pm_ct M 70) q (e.1 : Int)), (71, pm_upd (pm_ct M 71) q (pm_and (e.2.1 : Int) z)), (72, pm_upd (pm_ct M 72) q ((e.2.2.1 : Int) + 1)), (73, pm_upd (pm_ct M 73) q ((e.2.2.2.1 : Int) + (tB T : Int)))]) (M := M) lk_100_143 (lay6.ay (by decide) rfl) (by omega) (j := k) (by omega) (v := (y : Int)) r6 ?_
        refine g_if (t := 169) lk_100_144 rfl (by first | (unfold pm_inI; omega) | exact pm_and_in _ _ | exact pm_shr_in _ _ | exact pm_or_in _ _ | exact pm_xor_in _ _ | exact pm_shl_in _ _ | exact pm_cmp_in _ _ | exact pm_b8_in _ | (unfold pm_inI; split <;> omega)) (fun h7 => ?_) (fun h7 => ?_)
        · replace h7 : (y : Int) = 0 := h7
          refine g_iconst lk_100_169 ?_
          refine g_istore (ls' := [(2, ((65 : Nat) : Int)), (0, (k : Int)), (0, (q : Int)), (0, z), (2, ((24 : Nat) : Int)), (0, 0), (0, 0)]) lk_100_170 rfl rfl ?_
          refine g_aload_n lk_100_172 rfl ?_
          refine g_getfield lk_100_173 rfl (lay6.on (by decide) rfl) (v := ((74 : Nat) : Int)) (lay6.rf rfl) ?_
          refine g_iload_n lk_100_176 rfl ?_
          refine g_aload_n lk_100_177 rfl ?_
          refine g_getfield lk_100_178 rfl (lay6.on (by decide) rfl) (v := ((74 : Nat) : Int)) (lay6.rf rfl) ?_
          refine g_iload_n lk_100_181 rfl ?_
          refine m_iaload (u := [(70, pm_upd (pm_ct M 70) q (e.1 : Int)), (71, pm_upd (pm_ct M 71) q (pm_and (e.2.1 : Int) z)), (72, pm_upd (pm_ct M 72) q ((e.2.2.1 : Int) + 1)), (73, pm_upd (pm_ct M 73) q ((e.2.2.2.1 : Int) + (tB T : Int)))]) (M := M) lk_100_182 (lay6.ay (by decide) rfl) (by omega) (j := k) (by omega) (v := (e.2.2.2.2.1 : Int)) r5 ?_
          refine g_iload lk_100_183 rfl ?_
          refine g_if (t := 192) lk_100_185 rfl (by first | (unfold pm_inI; omega) | exact pm_and_in _ _ | exact pm_shr_in _ _ | exact pm_or_in _ _ | exact pm_xor_in _ _ | exact pm_shl_in _ _ | exact pm_cmp_in _ _ | exact pm_b8_in _ | (unfold pm_inI; split <;> omega)) (fun _ => ?_) (fun h => absurd (show (0 : Int) = (0 : Int) by omega) h)
          refine g_iconst lk_100_192 ?_
          refine g_iadd lk_100_193 ?_
          have lay8 : Lay (Mu [(70, pm_upd (pm_ct M 70) q (e.1 : Int)), (71, pm_upd (pm_ct M 71) q (pm_and (e.2.1 : Int) z)), (72, pm_upd (pm_ct M 72) q ((e.2.2.1 : Int) + 1)), (73, pm_upd (pm_ct M 73) q ((e.2.2.2.1 : Int) + (tB T : Int))), (74, pm_upd (pm_ct M 74) q ((e.2.2.2.2.1 : Int) + 0))] M) := lay6.muA (l := [(70, pm_upd (pm_ct M 70) q (e.1 : Int)), (71, pm_upd (pm_ct M 71) q (pm_and (e.2.1 : Int) z)), (72, pm_upd (pm_ct M 72) q ((e.2.2.1 : Int) + 1)), (73, pm_upd (pm_ct M 73) q ((e.2.2.2.1 : Int) + (tB T : Int)))]) (a := 74) (f := pm_upd (pm_ct M 74) q ((e.2.2.2.2.1 : Int) + 0)) rfl rfl
          refine m_iastore (u := [(70, pm_upd (pm_ct M 70) q (e.1 : Int)), (71, pm_upd (pm_ct M 71) q (pm_and (e.2.1 : Int) z)), (72, pm_upd (pm_ct M 72) q ((e.2.2.1 : Int) + 1)), (73, pm_upd (pm_ct M 73) q ((e.2.2.2.1 : Int) + (tB T : Int)))]) (u' := [(70, pm_upd (pm_ct M 70) q (e.1 : Int)), (71, pm_upd (pm_ct M 71) q (pm_and (e.2.1 : Int) z)), (72, pm_upd (pm_ct M 72) q ((e.2.2.1 : Int) + 1)), (73, pm_upd (pm_ct M 73) q ((e.2.2.2.1 : Int) + (tB T : Int))), (74, pm_upd (pm_ct M 74) q ((e.2.2.2.2.1 : Int) + 0))]) (M := M) lk_100_194 (lay6.ay (by decide) rfl) (by omega) (j := q) (by omega) rfl ?_
          refine g_aload_n lk_100_195 rfl ?_
          refine g_getfield lk_100_196 rfl (lay8.on (by decide) rfl) (v := ((75 : Nat) : Int)) (lay8.rf rfl) ?_
          refine g_iload_n lk_100_199 rfl ?_
          refine g_aload_n lk_100_200 rfl ?_
          refine g_getfield lk_100_201 rfl (lay8.on (by decide) rfl) (v := ((66 : Nat) : Int)) (lay8.rf rfl) ?_
          refine g_getfield lk_100_204 rfl (lay8.on (by decide) rfl) (v := ((67 : Nat) : Int)) (lay8.rf rfl) ?_
          refine g_iload_n lk_100_207 rfl ?_
          refine m_iaload (u := [(70, pm_upd (pm_ct M 70) q (e.1 : Int)), (71, pm_upd (pm_ct M 71) q (pm_and (e.2.1 : Int) z)), (72, pm_upd (pm_ct M 72) q ((e.2.2.1 : Int) + 1)), (73, pm_upd (pm_ct M 73) q ((e.2.2.2.1 : Int) + (tB T : Int))), (74, pm_upd (pm_ct M 74) q ((e.2.2.2.2.1 : Int) + 0))]) (M := M) lk_100_208 (lay8.ay (by decide) rfl) (by omega) (j := k) (by omega) (v := 2) hx' ?_
          have lay9 : Lay (Mu [(70, pm_upd (pm_ct M 70) q (e.1 : Int)), (71, pm_upd (pm_ct M 71) q (pm_and (e.2.1 : Int) z)), (72, pm_upd (pm_ct M 72) q ((e.2.2.1 : Int) + 1)), (73, pm_upd (pm_ct M 73) q ((e.2.2.2.1 : Int) + (tB T : Int))), (74, pm_upd (pm_ct M 74) q ((e.2.2.2.2.1 : Int) + 0)), (75, pm_upd (pm_ct M 75) q 2)] M) := lay8.muA (l := [(70, pm_upd (pm_ct M 70) q (e.1 : Int)), (71, pm_upd (pm_ct M 71) q (pm_and (e.2.1 : Int) z)), (72, pm_upd (pm_ct M 72) q ((e.2.2.1 : Int) + 1)), (73, pm_upd (pm_ct M 73) q ((e.2.2.2.1 : Int) + (tB T : Int))), (74, pm_upd (pm_ct M 74) q ((e.2.2.2.2.1 : Int) + 0))]) (a := 75) (f := pm_upd (pm_ct M 75) q 2) rfl rfl
          refine m_iastore (u := [(70, pm_upd (pm_ct M 70) q (e.1 : Int)), (71, pm_upd (pm_ct M 71) q (pm_and (e.2.1 : Int) z)), (72, pm_upd (pm_ct M 72) q ((e.2.2.1 : Int) + 1)), (73, pm_upd (pm_ct M 73) q ((e.2.2.2.1 : Int) + (tB T : Int))), (74, pm_upd (pm_ct M 74) q ((e.2.2.2.2.1 : Int) + 0))]) (u' := [(70, pm_upd (pm_ct M 70) q (e.1 : Int)), (71, pm_upd (pm_ct M 71) q (pm_and (e.2.1 : Int) z)), (72, pm_upd (pm_ct M 72) q ((e.2.2.1 : Int) + 1)), (73, pm_upd (pm_ct M 73) q ((e.2.2.2.1 : Int) + (tB T : Int))), (74, pm_upd (pm_ct M 74) q ((e.2.2.2.2.1 : Int) + 0)), (75, pm_upd (pm_ct M 75) q 2)]) (M := M) lk_100_209 (lay8.ay (by decide) rfl) (by omega) (j := q) (by omega) rfl ?_
          refine g_return lk_100_210 ?_
          exact fin _ _ _ _ _ _ _ rfl lay9 (by rw [d1]) (by rw [z2, d2]) (by omega) (by rw [p1]; omega) (by rw [if_pos (by omega)]; omega) rfl
        · replace h7 : ¬ ((y : Int) = 0) := h7
          refine g_aload_n lk_100_147 rfl ?_
          refine g_getfield lk_100_148 rfl (lay6.on (by decide) rfl) (v := ((75 : Nat) : Int)) (lay6.rf rfl) ?_
          refine g_iload_n lk_100_151 rfl ?_
          refine m_iaload (u := [(70, pm_upd (pm_ct M 70) q (e.1 : Int)), (71, pm_upd (pm_ct M 71) q (pm_and (e.2.1 : Int) z)), (72, pm_upd (pm_ct M 72) q ((e.2.2.1 : Int) + 1)), (73, pm_upd (pm_ct M 73) q ((e.2.2.2.1 : Int) + (tB T : Int)))]) (M := M) lk_100_152 (lay6.ay (by decide) rfl) (by omega) (j := k) (by omega) (v := (y : Int)) r6 ?_
          refine g_aload_n lk_100_153 rfl ?_
          refine g_getfield lk_100_154 rfl (lay6.on (by decide) rfl) (v := ((66 : Nat) : Int)) (lay6.rf rfl) ?_
          refine g_getfield lk_100_157 rfl (lay6.on (by decide) rfl) (v := ((67 : Nat) : Int)) (lay6.rf rfl) ?_
          refine g_iload_n lk_100_160 rfl ?_
          refine m_iaload (u := [(70, pm_upd (pm_ct M 70) q (e.1 : Int)), (71, pm_upd (pm_ct M 71) q (pm_and (e.2.1 : Int) z)), (72, pm_upd (pm_ct M 72) q ((e.2.2.1 : Int) + 1)), (73, pm_upd (pm_ct M 73) q ((e.2.2.2.1 : Int) + (tB T : Int)))]) (M := M) lk_100_161 (lay6.ay (by decide) rfl) (by omega) (j := k) (by omega) (v := 2) hx' ?_
          refine g_icmp (t := 169) lk_100_162 rfl (by first | (unfold pm_inI; omega) | exact pm_and_in _ _ | exact pm_shr_in _ _ | exact pm_or_in _ _ | exact pm_xor_in _ _ | exact pm_shl_in _ _ | exact pm_cmp_in _ _ | exact pm_b8_in _ | (unfold pm_inI; split <;> omega)) (by first | (unfold pm_inI; omega) | exact pm_and_in _ _ | exact pm_shr_in _ _ | exact pm_or_in _ _ | exact pm_xor_in _ _ | exact pm_shl_in _ _ | exact pm_cmp_in _ _ | exact pm_b8_in _ | (unfold pm_inI; split <;> omega)) (fun h10 => ?_) (fun h10 => ?_)
          · replace h10 : (y : Int) = 2 := h10
            refine g_iconst lk_100_169 ?_
            refine g_istore (ls' := [(2, ((65 : Nat) : Int)), (0, (k : Int)), (0, (q : Int)), (0, z), (2, ((24 : Nat) : Int)), (0, 0), (0, 0)]) lk_100_170 rfl rfl ?_
            refine g_aload_n lk_100_172 rfl ?_
            refine g_getfield lk_100_173 rfl (lay6.on (by decide) rfl) (v := ((74 : Nat) : Int)) (lay6.rf rfl) ?_
            refine g_iload_n lk_100_176 rfl ?_
            refine g_aload_n lk_100_177 rfl ?_
            refine g_getfield lk_100_178 rfl (lay6.on (by decide) rfl) (v := ((74 : Nat) : Int)) (lay6.rf rfl) ?_
            refine g_iload_n lk_100_181 rfl ?_
            refine m_iaload (u := [(70, pm_upd (pm_ct M 70) q (e.1 : Int)), (71, pm_upd (pm_ct M 71) q (pm_and (e.2.1 : Int) z)), (72, pm_upd (pm_ct M 72) q ((e.2.2.1 : Int) + 1)), (73, pm_upd (pm_ct M 73) q ((e.2.2.2.1 : Int) + (tB T : Int)))]) (M := M) lk_100_182 (lay6.ay (by decide) rfl) (by omega) (j := k) (by omega) (v := (e.2.2.2.2.1 : Int)) r5 ?_
            refine g_iload lk_100_183 rfl ?_
            refine g_if (t := 192) lk_100_185 rfl (by first | (unfold pm_inI; omega) | exact pm_and_in _ _ | exact pm_shr_in _ _ | exact pm_or_in _ _ | exact pm_xor_in _ _ | exact pm_shl_in _ _ | exact pm_cmp_in _ _ | exact pm_b8_in _ | (unfold pm_inI; split <;> omega)) (fun _ => ?_) (fun h => absurd (show (0 : Int) = (0 : Int) by omega) h)
            refine g_iconst lk_100_192 ?_
            refine g_iadd lk_100_193 ?_
            have lay11 : Lay (Mu [(70, pm_upd (pm_ct M 70) q (e.1 : Int)), (71, pm_upd (pm_ct M 71) q (pm_and (e.2.1 : Int) z)), (72, pm_upd (pm_ct M 72) q ((e.2.2.1 : Int) + 1)), (73, pm_upd (pm_ct M 73) q ((e.2.2.2.1 : Int) + (tB T : Int))), (74, pm_upd (pm_ct M 74) q ((e.2.2.2.2.1 : Int) + 0))] M) := lay6.muA (l := [(70, pm_upd (pm_ct M 70) q (e.1 : Int)), (71, pm_upd (pm_ct M 71) q (pm_and (e.2.1 : Int) z)), (72, pm_upd (pm_ct M 72) q ((e.2.2.1 : Int) + 1)), (73, pm_upd (pm_ct M 73) q ((e.2.2.2.1 : Int) + (tB T : Int)))]) (a := 74) (f := pm_upd (pm_ct M 74) q ((e.2.2.2.2.1 : Int) + 0)) rfl rfl
            refine m_iastore (u := [(70, pm_upd (pm_ct M 70) q (e.1 : Int)), (71, pm_upd (pm_ct M 71) q (pm_and (e.2.1 : Int) z)), (72, pm_upd (pm_ct M 72) q ((e.2.2.1 : Int) + 1)), (73, pm_upd (pm_ct M 73) q ((e.2.2.2.1 : Int) + (tB T : Int)))]) (u' := [(70, pm_upd (pm_ct M 70) q (e.1 : Int)), (71, pm_upd (pm_ct M 71) q (pm_and (e.2.1 : Int) z)), (72, pm_upd (pm_ct M 72) q ((e.2.2.1 : Int) + 1)), (73, pm_upd (pm_ct M 73) q ((e.2.2.2.1 : Int) + (tB T : Int))), (74, pm_upd (pm_ct M 74) q ((e.2.2.2.2.1 : Int) + 0))]) (M := M) lk_100_194 (lay6.ay (by decide) rfl) (by omega) (j := q) (by omega) rfl ?_
            refine g_aload_n lk_100_195 rfl ?_
            refine g_getfield lk_100_196 rfl (lay11.on (by decide) rfl) (v := ((75 : Nat) : Int)) (lay11.rf rfl) ?_
            refine g_iload_n lk_100_199 rfl ?_
            refine g_aload_n lk_100_200 rfl ?_
            refine g_getfield lk_100_201 rfl (lay11.on (by decide) rfl) (v := ((66 : Nat) : Int)) (lay11.rf rfl) ?_
            refine g_getfield lk_100_204 rfl (lay11.on (by decide) rfl) (v := ((67 : Nat) : Int)) (lay11.rf rfl) ?_
            refine g_iload_n lk_100_207 rfl ?_
            refine m_iaload (u := [(70, pm_upd (pm_ct M 70) q (e.1 : Int)), (71, pm_upd (pm_ct M 71) q (pm_and (e.2.1 : Int) z)), (72, pm_upd (pm_ct M 72) q ((e.2.2.1 : Int) + 1)), (73, pm_upd (pm_ct M 73) q ((e.2.2.2.1 : Int) + (tB T : Int))), (74, pm_upd (pm_ct M 74) q ((e.2.2.2.2.1 : Int) + 0))]) (M := M) lk_100_208 (lay11.ay (by decide) rfl) (by omega) (j := k) (by omega) (v := 2) hx' ?_
            have lay12 : Lay (Mu [(70, pm_upd (pm_ct M 70) q (e.1 : Int)), (71, pm_upd (pm_ct M 71) q (pm_and (e.2.1 : Int) z)), (72, pm_upd (pm_ct M 72) q ((e.2.2.1 : Int) + 1)), (73, pm_upd (pm_ct M 73) q ((e.2.2.2.1 : Int) + (tB T : Int))), (74, pm_upd (pm_ct M 74) q ((e.2.2.2.2.1 : Int) + 0)), (75, pm_upd (pm_ct M 75) q 2)] M) := lay11.muA (l := [(70, pm_upd (pm_ct M 70) q (e.1 : Int)), (71, pm_upd (pm_ct M 71) q (pm_and (e.2.1 : Int) z)), (72, pm_upd (pm_ct M 72) q ((e.2.2.1 : Int) + 1)), (73, pm_upd (pm_ct M 73) q ((e.2.2.2.1 : Int) + (tB T : Int))), (74, pm_upd (pm_ct M 74) q ((e.2.2.2.2.1 : Int) + 0))]) (a := 75) (f := pm_upd (pm_ct M 75) q 2) rfl rfl
            refine m_iastore (u := [(70, pm_upd (pm_ct M 70) q (e.1 : Int)), (71, pm_upd (pm_ct M 71) q (pm_and (e.2.1 : Int) z)), (72, pm_upd (pm_ct M 72) q ((e.2.2.1 : Int) + 1)), (73, pm_upd (pm_ct M 73) q ((e.2.2.2.1 : Int) + (tB T : Int))), (74, pm_upd (pm_ct M 74) q ((e.2.2.2.2.1 : Int) + 0))]) (u' := [(70, pm_upd (pm_ct M 70) q (e.1 : Int)), (71, pm_upd (pm_ct M 71) q (pm_and (e.2.1 : Int) z)), (72, pm_upd (pm_ct M 72) q ((e.2.2.1 : Int) + 1)), (73, pm_upd (pm_ct M 73) q ((e.2.2.2.1 : Int) + (tB T : Int))), (74, pm_upd (pm_ct M 74) q ((e.2.2.2.2.1 : Int) + 0)), (75, pm_upd (pm_ct M 75) q 2)]) (M := M) lk_100_209 (lay11.ay (by decide) rfl) (by omega) (j := q) (by omega) rfl ?_
            refine g_return lk_100_210 ?_
            exact fin _ _ _ _ _ _ _ rfl lay12 (by rw [d1]) (by rw [z2, d2]) (by omega) (by rw [p1]; omega) (by rw [if_neg (by omega), if_pos (by omega)]; omega) rfl
          · replace h10 : ¬ ((y : Int) = 2) := h10
            refine g_iconst lk_100_165 ?_
            refine g_goto (t := 170) lk_100_166 rfl ?_
            refine g_istore (ls' := [(2, ((65 : Nat) : Int)), (0, (k : Int)), (0, (q : Int)), (0, z), (2, ((24 : Nat) : Int)), (0, 0), (0, 1)]) lk_100_170 rfl rfl ?_
            refine g_aload_n lk_100_172 rfl ?_
            refine g_getfield lk_100_173 rfl (lay6.on (by decide) rfl) (v := ((74 : Nat) : Int)) (lay6.rf rfl) ?_
            refine g_iload_n lk_100_176 rfl ?_
            refine g_aload_n lk_100_177 rfl ?_
            refine g_getfield lk_100_178 rfl (lay6.on (by decide) rfl) (v := ((74 : Nat) : Int)) (lay6.rf rfl) ?_
            refine g_iload_n lk_100_181 rfl ?_
            refine m_iaload (u := [(70, pm_upd (pm_ct M 70) q (e.1 : Int)), (71, pm_upd (pm_ct M 71) q (pm_and (e.2.1 : Int) z)), (72, pm_upd (pm_ct M 72) q ((e.2.2.1 : Int) + 1)), (73, pm_upd (pm_ct M 73) q ((e.2.2.2.1 : Int) + (tB T : Int)))]) (M := M) lk_100_182 (lay6.ay (by decide) rfl) (by omega) (j := k) (by omega) (v := (e.2.2.2.2.1 : Int)) r5 ?_
            refine g_iload lk_100_183 rfl ?_
            refine g_if (t := 192) lk_100_185 rfl (by first | (unfold pm_inI; omega) | exact pm_and_in _ _ | exact pm_shr_in _ _ | exact pm_or_in _ _ | exact pm_xor_in _ _ | exact pm_shl_in _ _ | exact pm_cmp_in _ _ | exact pm_b8_in _ | (unfold pm_inI; split <;> omega)) (fun h => absurd h (show ¬ ((1 : Int) = (0 : Int)) by omega)) (fun _ => ?_)
            refine g_iconst lk_100_188 ?_
            refine g_goto (t := 193) lk_100_189 rfl ?_
            refine g_iadd lk_100_193 ?_
            have lay13 : Lay (Mu [(70, pm_upd (pm_ct M 70) q (e.1 : Int)), (71, pm_upd (pm_ct M 71) q (pm_and (e.2.1 : Int) z)), (72, pm_upd (pm_ct M 72) q ((e.2.2.1 : Int) + 1)), (73, pm_upd (pm_ct M 73) q ((e.2.2.2.1 : Int) + (tB T : Int))), (74, pm_upd (pm_ct M 74) q ((e.2.2.2.2.1 : Int) + 1))] M) := lay6.muA (l := [(70, pm_upd (pm_ct M 70) q (e.1 : Int)), (71, pm_upd (pm_ct M 71) q (pm_and (e.2.1 : Int) z)), (72, pm_upd (pm_ct M 72) q ((e.2.2.1 : Int) + 1)), (73, pm_upd (pm_ct M 73) q ((e.2.2.2.1 : Int) + (tB T : Int)))]) (a := 74) (f := pm_upd (pm_ct M 74) q ((e.2.2.2.2.1 : Int) + 1)) rfl rfl
            refine m_iastore (u := [(70, pm_upd (pm_ct M 70) q (e.1 : Int)), (71, pm_upd (pm_ct M 71) q (pm_and (e.2.1 : Int) z)), (72, pm_upd (pm_ct M 72) q ((e.2.2.1 : Int) + 1)), (73, pm_upd (pm_ct M 73) q ((e.2.2.2.1 : Int) + (tB T : Int)))]) (u' := [(70, pm_upd (pm_ct M 70) q (e.1 : Int)), (71, pm_upd (pm_ct M 71) q (pm_and (e.2.1 : Int) z)), (72, pm_upd (pm_ct M 72) q ((e.2.2.1 : Int) + 1)), (73, pm_upd (pm_ct M 73) q ((e.2.2.2.1 : Int) + (tB T : Int))), (74, pm_upd (pm_ct M 74) q ((e.2.2.2.2.1 : Int) + 1))]) (M := M) lk_100_194 (lay6.ay (by decide) rfl) (by omega) (j := q) (by omega) rfl ?_
            refine g_aload_n lk_100_195 rfl ?_
            refine g_getfield lk_100_196 rfl (lay13.on (by decide) rfl) (v := ((75 : Nat) : Int)) (lay13.rf rfl) ?_
            refine g_iload_n lk_100_199 rfl ?_
            refine g_aload_n lk_100_200 rfl ?_
            refine g_getfield lk_100_201 rfl (lay13.on (by decide) rfl) (v := ((66 : Nat) : Int)) (lay13.rf rfl) ?_
            refine g_getfield lk_100_204 rfl (lay13.on (by decide) rfl) (v := ((67 : Nat) : Int)) (lay13.rf rfl) ?_
            refine g_iload_n lk_100_207 rfl ?_
            refine m_iaload (u := [(70, pm_upd (pm_ct M 70) q (e.1 : Int)), (71, pm_upd (pm_ct M 71) q (pm_and (e.2.1 : Int) z)), (72, pm_upd (pm_ct M 72) q ((e.2.2.1 : Int) + 1)), (73, pm_upd (pm_ct M 73) q ((e.2.2.2.1 : Int) + (tB T : Int))), (74, pm_upd (pm_ct M 74) q ((e.2.2.2.2.1 : Int) + 1))]) (M := M) lk_100_208 (lay13.ay (by decide) rfl) (by omega) (j := k) (by omega) (v := 2) hx' ?_
            have lay14 : Lay (Mu [(70, pm_upd (pm_ct M 70) q (e.1 : Int)), (71, pm_upd (pm_ct M 71) q (pm_and (e.2.1 : Int) z)), (72, pm_upd (pm_ct M 72) q ((e.2.2.1 : Int) + 1)), (73, pm_upd (pm_ct M 73) q ((e.2.2.2.1 : Int) + (tB T : Int))), (74, pm_upd (pm_ct M 74) q ((e.2.2.2.2.1 : Int) + 1)), (75, pm_upd (pm_ct M 75) q 2)] M) := lay13.muA (l := [(70, pm_upd (pm_ct M 70) q (e.1 : Int)), (71, pm_upd (pm_ct M 71) q (pm_and (e.2.1 : Int) z)), (72, pm_upd (pm_ct M 72) q ((e.2.2.1 : Int) + 1)), (73, pm_upd (pm_ct M 73) q ((e.2.2.2.1 : Int) + (tB T : Int))), (74, pm_upd (pm_ct M 74) q ((e.2.2.2.2.1 : Int) + 1))]) (a := 75) (f := pm_upd (pm_ct M 75) q 2) rfl rfl
            refine m_iastore (u := [(70, pm_upd (pm_ct M 70) q (e.1 : Int)), (71, pm_upd (pm_ct M 71) q (pm_and (e.2.1 : Int) z)), (72, pm_upd (pm_ct M 72) q ((e.2.2.1 : Int) + 1)), (73, pm_upd (pm_ct M 73) q ((e.2.2.2.1 : Int) + (tB T : Int))), (74, pm_upd (pm_ct M 74) q ((e.2.2.2.2.1 : Int) + 1))]) (u' := [(70, pm_upd (pm_ct M 70) q (e.1 : Int)), (71, pm_upd (pm_ct M 71) q (pm_and (e.2.1 : Int) z)), (72, pm_upd (pm_ct M 72) q ((e.2.2.1 : Int) + 1)), (73, pm_upd (pm_ct M 73) q ((e.2.2.2.1 : Int) + (tB T : Int))), (74, pm_upd (pm_ct M 74) q ((e.2.2.2.2.1 : Int) + 1)), (75, pm_upd (pm_ct M 75) q 2)]) (M := M) lk_100_209 (lay13.ay (by decide) rfl) (by omega) (j := q) (by omega) rfl ?_
            refine g_return lk_100_210 ?_
            exact fin _ _ _ _ _ _ _ rfl lay14 (by rw [d1]) (by rw [z2, d2]) (by omega) (by rw [p1]; omega) (by rw [if_neg (by omega), if_neg (by omega)]; omega) rfl
      · replace h2 : ¬ ((q : Int) < (l : Int)) := h2
        omega
set_option maxHeartbeats 4000000 in
theorem c_Told_follow1 {d mc ms : Nat} {M : pm_M} (lay0 : Lay M) {T : Tab} (hT : TabOK T) (hM0 : TbAt M 24 T) {L : List Nd} {p dp : Nat → Nat} (hD : TrD L dp) (hp : PaOK L p) (hct0 : pm_ct M 66 3 = (L.length : Int)) (hL0 : NdL M 67 68 69 L) :
    pm_E (d + 2) 99 [(2, ((65 : Nat) : Int)), (2, ((24 : Nat) : Int))] M mc ms (fun ρ M' => ρ = none ∧ Lay M' ∧ Fr [70, 71, 72, 73, 74, 75] M M' ∧ CmAt M' 65 T L p) := by
  obtain ⟨Q, hQ⟩ : ∃ Q : pm_Q, Q = (fun ρ M' => ρ = none ∧ Lay M' ∧ Fr [70, 71, 72, 73, 74, 75] M M' ∧ CmAt M' 65 T L p) := ⟨_, rfl⟩
  rw [← hQ]
  have l31 := hD.2.1
  obtain ⟨l, hl⟩ : ∃ l, l = L.length := ⟨_, rfl⟩
  rw [← hl] at hct0 l31
  have loop : ∀ (n i : Nat) (N : pm_M), i + n = l → Lay N → Fr [70, 71, 72, 73, 74, 75] M N → A6 N 65 T L p i → Wp (d + 2) 99 50 [(2, ((65 : Nat) : Int)), (2, ((24 : Nat) : Int)), (0, (i : Int))] [] N mc ms Q := by
    intro n
    induction n with
    | zero =>
      intro i N hi lay fr ha
      have hct : pm_ct N 66 3 = (l : Int) := by rw [fr.ct (by decide)]; exact hct0
      have e : i = l := by omega
      rw [e] at ha ⊢
      refine g_iload_n lk_99_50 rfl ?_
      refine g_aload_n lk_99_51 rfl ?_
      refine g_getfield lk_99_52 rfl (lay.on (by decide) rfl) (v := ((66 : Nat) : Int)) (lay.rf rfl) ?_
      refine m_getfield (u := []) (M := N) lk_99_55 rfl (lay.on (by decide) rfl) (v := (l : Int)) hct ?_
      refine g_icmp (t := 123) lk_99_58 rfl (by first | (unfold pm_inI; omega) | exact pm_and_in _ _ | exact pm_shr_in _ _ | exact pm_or_in _ _ | exact pm_xor_in _ _ | exact pm_shl_in _ _ | exact pm_cmp_in _ _ | exact pm_b8_in _ | (unfold pm_inI; split <;> omega)) (by first | (unfold pm_inI; omega) | exact pm_and_in _ _ | exact pm_shr_in _ _ | exact pm_or_in _ _ | exact pm_xor_in _ _ | exact pm_shl_in _ _ | exact pm_cmp_in _ _ | exact pm_b8_in _ | (unfold pm_inI; split <;> omega)) (fun h1 => ?_) (fun h1 => ?_)
      · replace h1 : (l : Int) ≤ (l : Int) := h1
        refine g_return lk_99_123 ?_
        rw [hQ]
        exact ⟨rfl, lay, fr, A6.cm hp (by rw [← hl]; exact ha)⟩
      · replace h1 : ¬ ((l : Int) ≤ (l : Int)) := h1
        omega
    | succ n ih =>
      intro i N hi lay fr ha
      have hct : pm_ct N 66 3 = (l : Int) := by rw [fr.ct (by decide)]; exact hct0
      have hk : i < L.length := by omega
      obtain ⟨x1, x2, x3⟩ := hL0 i _ (ndA_get hk)
      have y1 : pm_ct N 67 i = ((ndA L i).1 : Int) := by rw [fr.ct (by decide)]; exact x1
      have y2 : pm_ct N 68 i = ((ndA L i).2.1 : Int) := by rw [fr.ct (by decide)]; exact x2
      by_cases h0 : (ndA L i).1 = 0
      · have y1' : pm_ct N 67 i = 0 := by rw [y1, h0]; rfl
        refine g_iload_n lk_99_50 rfl ?_
        refine g_aload_n lk_99_51 rfl ?_
        refine g_getfield lk_99_52 rfl (lay.on (by decide) rfl) (v := ((66 : Nat) : Int)) (lay.rf rfl) ?_
        refine m_getfield (u := []) (M := N) lk_99_55 rfl (lay.on (by decide) rfl) (v := (l : Int)) hct ?_
        refine g_icmp (t := 123) lk_99_58 rfl (by first | (unfold pm_inI; omega) | exact pm_and_in _ _ | exact pm_shr_in _ _ | exact pm_or_in _ _ | exact pm_xor_in _ _ | exact pm_shl_in _ _ | exact pm_cmp_in _ _ | exact pm_b8_in _ | (unfold pm_inI; split <;> omega)) (by first | (unfold pm_inI; omega) | exact pm_and_in _ _ | exact pm_shr_in _ _ | exact pm_or_in _ _ | exact pm_xor_in _ _ | exact pm_shl_in _ _ | exact pm_cmp_in _ _ | exact pm_b8_in _ | (unfold pm_inI; split <;> omega)) (fun h1 => ?_) (fun h1 => ?_)
        · replace h1 : (l : Int) ≤ (i : Int) := h1
          omega
        · replace h1 : ¬ ((l : Int) ≤ (i : Int)) := h1
          refine g_aload_n lk_99_61 rfl ?_
          refine g_getfield lk_99_62 rfl (lay.on (by decide) rfl) (v := ((66 : Nat) : Int)) (lay.rf rfl) ?_
          refine g_getfield lk_99_65 rfl (lay.on (by decide) rfl) (v := ((67 : Nat) : Int)) (lay.rf rfl) ?_
          refine g_iload_n lk_99_68 rfl ?_
          refine m_iaload (u := []) (M := N) lk_99_69 (lay.ay (by decide) rfl) (by omega) (j := i) (by omega) (v := 0) y1' ?_
          refine g_if (t := 117) lk_99_70 rfl (by first | (unfold pm_inI; omega) | exact pm_and_in _ _ | exact pm_shr_in _ _ | exact pm_or_in _ _ | exact pm_xor_in _ _ | exact pm_shl_in _ _ | exact pm_cmp_in _ _ | exact pm_b8_in _ | (unfold pm_inI; split <;> omega)) (fun _ => ?_) (fun h => absurd (show (0 : Int) = (0 : Int) by omega) h)
          refine g_iinc (ls' := [(2, ((65 : Nat) : Int)), (2, ((24 : Nat) : Int)), (0, ((i : Int) + 1))]) lk_99_117 rfl rfl rfl ?_
          refine g_goto (t := 50) lk_99_120 rfl ?_
          exact ih (i + 1) N (by omega) lay fr (ha.leaf hp h0)
      obtain ⟨a1, a2, _, a4⟩ := hD.2.2.2 i hk
      obtain ⟨g1, g2, g3, g4, _, _⟩ := a4 h0
      obtain ⟨q, hq⟩ : ∃ q, q = (ndA L i).2.2.toNat := ⟨_, rfl⟩
      have y3 : pm_ct N 69 i = (q : Int) := by rw [fr.ct (by decide), x3]; omega
      have q1 : i + 1 < q := by omega
      have q2 : q < l := by omega
      obtain ⟨b1, b2, _, _, _, b6⟩ := CM_bd hT hD hp _ _ (Nat.lt_succ_self _) hk
      have r6 := lt_64_of hT.1.2 b1
      have c6 := lt_64_of hT.2.1.2 b2
      have ra := ha.at hp hk
      have st := fun {K1 K2 : pm_M} (u1 : U6 N K1 65 (i + 1) _) (u2 : U6 K1 K2 65 q _) => ha.stp hD hp hk h0 hq u1 u2
      obtain ⟨e, he⟩ : ∃ e, e = CM T L p i := ⟨_, rfl⟩
      obtain ⟨s, hs⟩ : ∃ s, s = (ndA L i).2.1 := ⟨_, rfl⟩
      obtain ⟨x, hx⟩ : ∃ x, x = (ndA L i).1 := ⟨_, rfl⟩
      rw [← he] at ra r6 c6 st b6
      rw [← hs] at y2 a2 st
      rw [← hx] at y1 a1 h0 st
      have x12 : x = 1 ∨ x = 2 := by omega
      have z1 : ∀ a : Nat, a < 64 → pm_and (a : Int) (s : Int) = ((ctS true a s : Nat) : Int) := fun a ha => pm_and_n (by omega) (by omega)
      have z2 : ∀ a : Nat, a < 64 → pm_and (a : Int) (pm_xor (s : Int) (-1)) = ((ctS false a s : Nat) : Int) := fun a ha => pm_nand ha a2
      have tb := hM0.fr fr (by decide) (by decide)
      have hd1 := c_Told_handDown1 (d := d) (mc := 0) (ms := 0) (q := i + 1) lay hT tb hct l31 (Nat.lt_succ_self _) (by omega) y1 x12 z1 ra r6 c6 b6
      have hd2 := fun {K1 : pm_M} (l1 : Lay K1) (f1 : Fr [70, 71, 72, 73, 74, 75] N K1) (u1 : U6 N K1 65 (i + 1) (dStp T x s true e)) => c_Told_handDown1 (d := d) (mc := 0) (ms := 0) (k := i) (q := q) l1 hT (tb.fr f1 (by decide) (by decide)) (by rw [f1.ct (by decide)]; exact hct) l31 (by omega) q2 (by rw [f1.ct (by decide)]; exact y1) x12 z2 (ra.ne u1 (by omega)) r6 c6 b6
      have fd := fun N' => ih (i + 1) N' (by omega)
      clear ih a4
      refine g_iload_n lk_99_50 rfl ?_
      refine g_aload_n lk_99_51 rfl ?_
      refine g_getfield lk_99_52 rfl (lay.on (by decide) rfl) (v := ((66 : Nat) : Int)) (lay.rf rfl) ?_
      refine m_getfield (u := []) (M := N) lk_99_55 rfl (lay.on (by decide) rfl) (v := (l : Int)) hct ?_
      refine g_icmp (t := 123) lk_99_58 rfl (by first | (unfold pm_inI; omega) | exact pm_and_in _ _ | exact pm_shr_in _ _ | exact pm_or_in _ _ | exact pm_xor_in _ _ | exact pm_shl_in _ _ | exact pm_cmp_in _ _ | exact pm_b8_in _ | (unfold pm_inI; split <;> omega)) (by first | (unfold pm_inI; omega) | exact pm_and_in _ _ | exact pm_shr_in _ _ | exact pm_or_in _ _ | exact pm_xor_in _ _ | exact pm_shl_in _ _ | exact pm_cmp_in _ _ | exact pm_b8_in _ | (unfold pm_inI; split <;> omega)) (fun h1 => ?_) (fun h1 => ?_)
      · replace h1 : (l : Int) ≤ (i : Int) := h1
        omega
      · replace h1 : ¬ ((l : Int) ≤ (i : Int)) := h1
        refine g_aload_n lk_99_61 rfl ?_
        refine g_getfield lk_99_62 rfl (lay.on (by decide) rfl) (v := ((66 : Nat) : Int)) (lay.rf rfl) ?_
        refine g_getfield lk_99_65 rfl (lay.on (by decide) rfl) (v := ((67 : Nat) : Int)) (lay.rf rfl) ?_
        refine g_iload_n lk_99_68 rfl ?_
        refine m_iaload (u := []) (M := N) lk_99_69 (lay.ay (by decide) rfl) (by omega) (j := i) (by omega) (v := (x : Int)) y1 ?_
        refine g_if (t := 117) lk_99_70 rfl (by first | (unfold pm_inI; omega) | exact pm_and_in _ _ | exact pm_shr_in _ _ | exact pm_or_in _ _ | exact pm_xor_in _ _ | exact pm_shl_in _ _ | exact pm_cmp_in _ _ | exact pm_b8_in _ | (unfold pm_inI; split <;> omega)) (fun h2 => ?_) (fun h2 => ?_)
        · replace h2 : (x : Int) = 0 := h2
          refine g_iinc (ls' := [(2, ((65 : Nat) : Int)), (2, ((24 : Nat) : Int)), (0, ((i : Int) + 1))]) lk_99_117 rfl rfl rfl ?_
          refine g_goto (t := 50) lk_99_120 rfl ?_
          omega
        · replace h2 : ¬ ((x : Int) = 0) := h2
          refine g_aload_n lk_99_73 rfl ?_
          refine g_iload_n lk_99_74 rfl ?_
          refine g_iload_n lk_99_75 rfl ?_
          refine g_iconst lk_99_76 ?_
          refine g_iadd lk_99_77 ?_
          refine g_aload_n lk_99_78 rfl ?_
          refine g_getfield lk_99_79 rfl (lay.on (by decide) rfl) (v := ((66 : Nat) : Int)) (lay.rf rfl) ?_
          refine g_getfield lk_99_82 rfl (lay.on (by decide) rfl) (v := ((68 : Nat) : Int)) (lay.rf rfl) ?_
          refine g_iload_n lk_99_85 rfl ?_
          refine m_iaload (u := []) (M := N) lk_99_86 (lay.ay (by decide) rfl) (by omega) (j := i) (by omega) (v := (s : Int)) y2 ?_
          refine g_aload_n lk_99_87 rfl ?_
          refine g_virtual (p := 65) (Qc := _) lk_99_88 rfl (Nat.le_of_ble_eq_true rfl) rfl rfl (lay.on (by decide) rfl) (Nat.le_of_ble_eq_true rfl) (Nat.le_of_ble_eq_true rfl) (Nat.zero_le _) (Nat.zero_le _) (hd1) ?_
          rintro _ K1 ⟨rfl, lay1, f1, u1⟩
          have k3 : pm_ct K1 69 i = (q : Int) := (by rw [f1.ct (by decide)]; exact y3)
          have k2 : pm_ct K1 68 i = (s : Int) := (by rw [f1.ct (by decide)]; exact y2)
          show Wp _ 99 91 [(2, ((65 : Nat) : Int)), (2, ((24 : Nat) : Int)), (0, (i : Int))] [] K1 _ _ _
          refine g_aload_n lk_99_91 rfl ?_
          refine g_iload_n lk_99_92 rfl ?_
          refine g_aload_n lk_99_93 rfl ?_
          refine g_getfield lk_99_94 rfl (lay1.on (by decide) rfl) (v := ((66 : Nat) : Int)) (lay1.rf rfl) ?_
          refine g_getfield lk_99_97 rfl (lay1.on (by decide) rfl) (v := ((69 : Nat) : Int)) (lay1.rf rfl) ?_
          refine g_iload_n lk_99_100 rfl ?_
          refine m_iaload (u := []) (M := K1) lk_99_101 (lay1.ay (by decide) rfl) (by omega) (j := i) (by omega) (v := (q : Int)) k3 ?_
          refine g_aload_n lk_99_102 rfl ?_
          refine g_getfield lk_99_103 rfl (lay1.on (by decide) rfl) (v := ((66 : Nat) : Int)) (lay1.rf rfl) ?_
          refine g_getfield lk_99_106 rfl (lay1.on (by decide) rfl) (v := ((68 : Nat) : Int)) (lay1.rf rfl) ?_
          refine g_iload_n lk_99_109 rfl ?_
          refine m_iaload (u := []) (M := K1) lk_99_110 (lay1.ay (by decide) rfl) (by omega) (j := i) (by omega) (v := (s : Int)) k2 ?_
          refine g_iconst lk_99_111 ?_
          refine g_ixor lk_99_112 ?_
          refine g_aload_n lk_99_113 rfl ?_
          refine g_virtual (p := 65) (Qc := _) lk_99_114 rfl (Nat.le_of_ble_eq_true rfl) rfl rfl (lay1.on (by decide) rfl) (Nat.le_of_ble_eq_true rfl) (Nat.le_of_ble_eq_true rfl) (Nat.zero_le _) (Nat.zero_le _) (hd2 lay1 f1 u1) ?_
          rintro _ K2 ⟨rfl, lay2, f2, u2⟩
          show Wp _ 99 117 [(2, ((65 : Nat) : Int)), (2, ((24 : Nat) : Int)), (0, (i : Int))] [] K2 _ _ _
          refine g_iinc (ls' := [(2, ((65 : Nat) : Int)), (2, ((24 : Nat) : Int)), (0, ((i : Int) + 1))]) lk_99_117 rfl rfl rfl ?_
          refine g_goto (t := 50) lk_99_120 rfl ?_
          exact fd K2 lay2 ((fr.trans f1).trans f2) (st u1 u2)
  show Wp (d + 2) 99 0 [(2, ((65 : Nat) : Int)), (2, ((24 : Nat) : Int)), (9, 0)] [] M mc ms Q
  have ar := c_Table_allRows (d := d + 1) (mc := 0) (ms := 0) lay0 (Or.inr rfl) hT hM0
  have g0 : ∀ {f g : Nat → Int} {h : Dt → Nat}, f = pm_upd g 0 ((h (dBas T) : Nat) : Int) → AtC f h T L p 0 := fun hf k hk ho => by
    have k0 : k = 0 := by omega
    rw [k0, hf, pm_upd_eq, CM_0]
  refine g_aload_n lk_99_0 rfl ?_
  refine g_getfield lk_99_1 rfl (lay0.on (by decide) rfl) (v := ((70 : Nat) : Int)) (lay0.rf rfl) ?_
  refine g_iconst lk_99_4 ?_
  refine g_aload_n lk_99_5 rfl ?_
  refine g_virtual (p := 24) (Qc := _) lk_99_6 rfl (Nat.le_of_ble_eq_true rfl) rfl rfl (lay0.on (by decide) rfl) (Nat.le_of_ble_eq_true rfl) (Nat.le_of_ble_eq_true rfl) (Nat.zero_le _) (Nat.zero_le _) (ar) ?_
  rintro _ N1 ⟨rfl, hN1⟩
  rw [hN1]
  show Wp _ 99 9 [(2, ((65 : Nat) : Int)), (2, ((24 : Nat) : Int)), (9, 0)] [(0, ((2 ^ tR T - 1 : Nat) : Int)), (0, 0), (2, ((70 : Nat) : Int))] M _ _ _
  have lay2 : Lay (Mu [(70, pm_upd (pm_ct M 70) 0 ((2 ^ tR T - 1 : Nat) : Int))] M) := lay0.muA (l := []) (a := 70) (f := pm_upd (pm_ct M 70) 0 ((2 ^ tR T - 1 : Nat) : Int)) rfl rfl
  refine m_iastore (u := []) (u' := [(70, pm_upd (pm_ct M 70) 0 ((2 ^ tR T - 1 : Nat) : Int))]) (M := M) lk_99_9 (lay0.ay (by decide) rfl) (by omega) (j := 0) (by omega) rfl ?_
  refine g_aload_n lk_99_10 rfl ?_
  refine g_getfield lk_99_11 rfl (lay2.on (by decide) rfl) (v := ((71 : Nat) : Int)) (lay2.rf rfl) ?_
  refine g_iconst lk_99_14 ?_
  refine g_aload_n lk_99_15 rfl ?_
  refine g_virtual (p := 24) (Qc := _) lk_99_16 rfl (Nat.le_of_ble_eq_true rfl) rfl rfl (lay2.on (by decide) rfl) (Nat.le_of_ble_eq_true rfl) (Nat.le_of_ble_eq_true rfl) (Nat.zero_le _) (Nat.zero_le _) (c_Table_allColumns lay2 (Or.inr rfl) hT (hM0.fr (Fr.mu (S := [70]) _ _ rfl) (by decide) (by decide))) ?_
  rintro _ N3 ⟨rfl, hN3⟩
  rw [hN3]
  show Wp _ 99 19 [(2, ((65 : Nat) : Int)), (2, ((24 : Nat) : Int)), (9, 0)] [(0, ((2 ^ tC T - 1 : Nat) : Int)), (0, 0), (2, ((71 : Nat) : Int))] (Mu [(70, pm_upd (pm_ct M 70) 0 ((2 ^ tR T - 1 : Nat) : Int))] M) _ _ _
  have lay4 : Lay (Mu [(70, pm_upd (pm_ct M 70) 0 ((2 ^ tR T - 1 : Nat) : Int)), (71, pm_upd (pm_ct M 71) 0 ((2 ^ tC T - 1 : Nat) : Int))] M) := lay2.muA (l := [(70, pm_upd (pm_ct M 70) 0 ((2 ^ tR T - 1 : Nat) : Int))]) (a := 71) (f := pm_upd (pm_ct M 71) 0 ((2 ^ tC T - 1 : Nat) : Int)) rfl rfl
  refine m_iastore (u := [(70, pm_upd (pm_ct M 70) 0 ((2 ^ tR T - 1 : Nat) : Int))]) (u' := [(70, pm_upd (pm_ct M 70) 0 ((2 ^ tR T - 1 : Nat) : Int)), (71, pm_upd (pm_ct M 71) 0 ((2 ^ tC T - 1 : Nat) : Int))]) (M := M) lk_99_19 (lay2.ay (by decide) rfl) (by omega) (j := 0) (by omega) rfl ?_
  refine g_aload_n lk_99_20 rfl ?_
  refine g_getfield lk_99_21 rfl (lay4.on (by decide) rfl) (v := ((72 : Nat) : Int)) (lay4.rf rfl) ?_
  refine g_iconst lk_99_24 ?_
  refine g_iconst lk_99_25 ?_
  have lay5 : Lay (Mu [(70, pm_upd (pm_ct M 70) 0 ((2 ^ tR T - 1 : Nat) : Int)), (71, pm_upd (pm_ct M 71) 0 ((2 ^ tC T - 1 : Nat) : Int)), (72, pm_upd (pm_ct M 72) 0 0)] M) := lay4.muA (l := [(70, pm_upd (pm_ct M 70) 0 ((2 ^ tR T - 1 : Nat) : Int)), (71, pm_upd (pm_ct M 71) 0 ((2 ^ tC T - 1 : Nat) : Int))]) (a := 72) (f := pm_upd (pm_ct M 72) 0 0) rfl rfl
  refine m_iastore (u := [(70, pm_upd (pm_ct M 70) 0 ((2 ^ tR T - 1 : Nat) : Int)), (71, pm_upd (pm_ct M 71) 0 ((2 ^ tC T - 1 : Nat) : Int))]) (u' := [(70, pm_upd (pm_ct M 70) 0 ((2 ^ tR T - 1 : Nat) : Int)), (71, pm_upd (pm_ct M 71) 0 ((2 ^ tC T - 1 : Nat) : Int)), (72, pm_upd (pm_ct M 72) 0 0)]) (M := M) lk_99_26 (lay4.ay (by decide) rfl) (by omega) (j := 0) (by omega) rfl ?_
  refine g_aload_n lk_99_27 rfl ?_
  refine g_getfield lk_99_28 rfl (lay5.on (by decide) rfl) (v := ((73 : Nat) : Int)) (lay5.rf rfl) ?_
  refine g_iconst lk_99_31 ?_
  refine g_iconst lk_99_32 ?_
  have lay6 : Lay (Mu [(70, pm_upd (pm_ct M 70) 0 ((2 ^ tR T - 1 : Nat) : Int)), (71, pm_upd (pm_ct M 71) 0 ((2 ^ tC T - 1 : Nat) : Int)), (72, pm_upd (pm_ct M 72) 0 0), (73, pm_upd (pm_ct M 73) 0 0)] M) := lay5.muA (l := [(70, pm_upd (pm_ct M 70) 0 ((2 ^ tR T - 1 : Nat) : Int)), (71, pm_upd (pm_ct M 71) 0 ((2 ^ tC T - 1 : Nat) : Int)), (72, pm_upd (pm_ct M 72) 0 0)]) (a := 73) (f := pm_upd (pm_ct M 73) 0 0) rfl rfl
  refine m_iastore (u := [(70, pm_upd (pm_ct M 70) 0 ((2 ^ tR T - 1 : Nat) : Int)), (71, pm_upd (pm_ct M 71) 0 ((2 ^ tC T - 1 : Nat) : Int)), (72, pm_upd (pm_ct M 72) 0 0)]) (u' := [(70, pm_upd (pm_ct M 70) 0 ((2 ^ tR T - 1 : Nat) : Int)), (71, pm_upd (pm_ct M 71) 0 ((2 ^ tC T - 1 : Nat) : Int)), (72, pm_upd (pm_ct M 72) 0 0), (73, pm_upd (pm_ct M 73) 0 0)]) (M := M) lk_99_33 (lay5.ay (by decide) rfl) (by omega) (j := 0) (by omega) rfl ?_
  refine g_aload_n lk_99_34 rfl ?_
  refine g_getfield lk_99_35 rfl (lay6.on (by decide) rfl) (v := ((74 : Nat) : Int)) (lay6.rf rfl) ?_
  refine g_iconst lk_99_38 ?_
  refine g_iconst lk_99_39 ?_
  have lay7 : Lay (Mu [(70, pm_upd (pm_ct M 70) 0 ((2 ^ tR T - 1 : Nat) : Int)), (71, pm_upd (pm_ct M 71) 0 ((2 ^ tC T - 1 : Nat) : Int)), (72, pm_upd (pm_ct M 72) 0 0), (73, pm_upd (pm_ct M 73) 0 0), (74, pm_upd (pm_ct M 74) 0 0)] M) := lay6.muA (l := [(70, pm_upd (pm_ct M 70) 0 ((2 ^ tR T - 1 : Nat) : Int)), (71, pm_upd (pm_ct M 71) 0 ((2 ^ tC T - 1 : Nat) : Int)), (72, pm_upd (pm_ct M 72) 0 0), (73, pm_upd (pm_ct M 73) 0 0)]) (a := 74) (f := pm_upd (pm_ct M 74) 0 0) rfl rfl
  refine m_iastore (u := [(70, pm_upd (pm_ct M 70) 0 ((2 ^ tR T - 1 : Nat) : Int)), (71, pm_upd (pm_ct M 71) 0 ((2 ^ tC T - 1 : Nat) : Int)), (72, pm_upd (pm_ct M 72) 0 0), (73, pm_upd (pm_ct M 73) 0 0)]) (u' := [(70, pm_upd (pm_ct M 70) 0 ((2 ^ tR T - 1 : Nat) : Int)), (71, pm_upd (pm_ct M 71) 0 ((2 ^ tC T - 1 : Nat) : Int)), (72, pm_upd (pm_ct M 72) 0 0), (73, pm_upd (pm_ct M 73) 0 0), (74, pm_upd (pm_ct M 74) 0 0)]) (M := M) lk_99_40 (lay6.ay (by decide) rfl) (by omega) (j := 0) (by omega) rfl ?_
  refine g_aload_n lk_99_41 rfl ?_
  refine g_getfield lk_99_42 rfl (lay7.on (by decide) rfl) (v := ((75 : Nat) : Int)) (lay7.rf rfl) ?_
  refine g_iconst lk_99_45 ?_
  refine g_iconst lk_99_46 ?_
  have lay8 : Lay (Mu [(70, pm_upd (pm_ct M 70) 0 ((2 ^ tR T - 1 : Nat) : Int)), (71, pm_upd (pm_ct M 71) 0 ((2 ^ tC T - 1 : Nat) : Int)), (72, pm_upd (pm_ct M 72) 0 0), (73, pm_upd (pm_ct M 73) 0 0), (74, pm_upd (pm_ct M 74) 0 0), (75, pm_upd (pm_ct M 75) 0 0)] M) := lay7.muA (l := [(70, pm_upd (pm_ct M 70) 0 ((2 ^ tR T - 1 : Nat) : Int)), (71, pm_upd (pm_ct M 71) 0 ((2 ^ tC T - 1 : Nat) : Int)), (72, pm_upd (pm_ct M 72) 0 0), (73, pm_upd (pm_ct M 73) 0 0), (74, pm_upd (pm_ct M 74) 0 0)]) (a := 75) (f := pm_upd (pm_ct M 75) 0 0) rfl rfl
  refine m_iastore (u := [(70, pm_upd (pm_ct M 70) 0 ((2 ^ tR T - 1 : Nat) : Int)), (71, pm_upd (pm_ct M 71) 0 ((2 ^ tC T - 1 : Nat) : Int)), (72, pm_upd (pm_ct M 72) 0 0), (73, pm_upd (pm_ct M 73) 0 0), (74, pm_upd (pm_ct M 74) 0 0)]) (u' := [(70, pm_upd (pm_ct M 70) 0 ((2 ^ tR T - 1 : Nat) : Int)), (71, pm_upd (pm_ct M 71) 0 ((2 ^ tC T - 1 : Nat) : Int)), (72, pm_upd (pm_ct M 72) 0 0), (73, pm_upd (pm_ct M 73) 0 0), (74, pm_upd (pm_ct M 74) 0 0), (75, pm_upd (pm_ct M 75) 0 0)]) (M := M) lk_99_47 (lay7.ay (by decide) rfl) (by omega) (j := 0) (by omega) rfl ?_
  refine g_iconst lk_99_48 ?_
  refine g_istore_n (ls' := [(2, ((65 : Nat) : Int)), (2, ((24 : Nat) : Int)), (0, 0)]) lk_99_49 rfl rfl ?_
  refine loop l 0 _ (by omega) lay8 (Fr.mu _ _ rfl) ⟨g0 (g := pm_ct M 70) (by rw [Mu_ct]; rfl), g0 (g := pm_ct M 71) (by rw [Mu_ct]; rfl), g0 (g := pm_ct M 72) (by rw [Mu_ct]; rfl), g0 (g := pm_ct M 73) (by rw [Mu_ct]; rfl), g0 (g := pm_ct M 74) (by rw [Mu_ct]; rfl), g0 (g := pm_ct M 75) (by rw [Mu_ct]; rfl)⟩
set_option maxHeartbeats 4000000 in
theorem c_Told_handDown2 {d mc ms : Nat} {M : pm_M} (lay0 : Lay M) {T : Tab} (hT : TabOK T) (hM : TbAt M 24 T) {l x s k q : Nat} {b : Bool} {z : Int} {e : Dt} (hct : pm_ct M 77 3 = (l : Int)) (l31 : l ≤ 31) (hkq : k < q) (hql : q < l) (hx : pm_ct M 78 k = (x : Int)) (x12 : x = 1 ∨ x = 2) (hz : ∀ a : Nat, a < 64 → pm_and (a : Int) z = ((ctS b a s : Nat) : Int)) (he : R6 M 76 k e) (e1 : e.1 < 64) (e2 : e.2.1 < 64) (e6 : e.2.2.2.2.2 ≤ 2) :
    pm_E (d + 1) 100 [(2, ((76 : Nat) : Int)), (0, (k : Int)), (0, (q : Int)), (0, z), (2, ((24 : Nat) : Int))] M mc ms (fun ρ M' => ρ = none ∧ Lay M' ∧ Fr [81, 82, 83, 84, 85, 86] M M' ∧ U6 M M' 76 q (dStp T x s b e)) := by
  obtain ⟨r1, r2, r3, r4, r5, r6⟩ := he
  have z1 := hz _ e1
  have z2 := hz _ e2
  obtain ⟨_, _, m3, m4, _⟩ := id hM
  have tt : tu e.2.2.2.2.2 x = if e.2.2.2.2.2 = 0 then 0 else if e.2.2.2.2.2 = x then 0 else 1 := rfl
  obtain ⟨y, hy⟩ : ∃ y, y = e.2.2.2.2.2 := ⟨_, rfl⟩
  rw [← hy] at e6 r6 tt
  have fin : ∀ (N : pm_M) (u5 u6 u7 u8 u9 u10 : Int), N = Mu [(81, pm_upd (pm_ct M 81) q u5), (82, pm_upd (pm_ct M 82) q u6), (83, pm_upd (pm_ct M 83) q u7), (84, pm_upd (pm_ct M 84) q u8), (85, pm_upd (pm_ct M 85) q u9), (86, pm_upd (pm_ct M 86) q u10)] M → Lay N → u5 = ((dStp T x s b e).1 : Int) → u6 = ((dStp T x s b e).2.1 : Int) → u7 = ((e.2.2.1 + 1 : Nat) : Int) → u8 = ((e.2.2.2.1 + prK T x : Nat) : Int) → u9 = ((e.2.2.2.2.1 + tu e.2.2.2.2.2 x : Nat) : Int) → u10 = (x : Int) → ((none : Option pm_V) = none ∧ Lay N ∧ Fr [81, 82, 83, 84, 85, 86] M N ∧ U6 M N 76 q (dStp T x s b e)) := by
    intro N u5 u6 u7 u8 u9 u10 hN lN a1 a2 a3 a4 a5 a6
    rw [hN] at lN ⊢
    refine ⟨rfl, lN, Fr.mu _ _ rfl, ?_, ?_, ?_, ?_, ?_, ?_⟩
    · rw [Mu_ct, ← a1]; rfl
    · rw [Mu_ct, ← a2]; rfl
    · rw [Mu_ct, show ((dStp T x s b e).2.2.1 : Int) = u7 from a3.symm]; rfl
    · rw [Mu_ct, show ((dStp T x s b e).2.2.2.1 : Int) = u8 from a4.symm]; rfl
    · rw [Mu_ct, show ((dStp T x s b e).2.2.2.2.1 : Int) = u9 from a5.symm]; rfl
    · rw [Mu_ct, show ((dStp T x s b e).2.2.2.2.2 : Int) = u10 from a6.symm]; rfl
  show Wp (d + 1) 100 0 [(2, ((76 : Nat) : Int)), (0, (k : Int)), (0, (q : Int)), (0, z), (2, ((24 : Nat) : Int)), (9, 0), (9, 0)] [] M mc ms _
  rcases x12 with hx1 | hx1
  · rw [hx1] at hx tt fin ⊢
    have hx' : pm_ct M 78 k = 1 := hx
    have d1 : (dStp T 1 s b e).1 = ctS b e.1 s := rfl
    have d2 : (dStp T 1 s b e).2.1 = e.2.1 := rfl
    have p1 : prK T 1 = tA T := rfl
    rw [← hy, tt] at fin
    refine g_iload_n lk_100_0 rfl ?_
    refine g_iload_n lk_100_1 rfl ?_
    refine g_icmp (t := 16) lk_100_2 rfl (by first | (unfold pm_inI; omega) | exact pm_and_in _ _ | exact pm_shr_in _ _ | exact pm_or_in _ _ | exact pm_xor_in _ _ | exact pm_shl_in _ _ | exact pm_cmp_in _ _ | exact pm_b8_in _ | (unfold pm_inI; split <;> omega)) (by first | (unfold pm_inI; omega) | exact pm_and_in _ _ | exact pm_shr_in _ _ | exact pm_or_in _ _ | exact pm_xor_in _ _ | exact pm_shl_in _ _ | exact pm_cmp_in _ _ | exact pm_b8_in _ | (unfold pm_inI; split <;> omega)) (fun h1 => ?_) (fun h1 => ?_)
    · replace h1 : (q : Int) ≤ (k : Int) := h1
      omega
    · replace h1 : ¬ ((q : Int) ≤ (k : Int)) := h1
      refine g_iload_n lk_100_5 rfl ?_
      refine g_aload_n lk_100_6 rfl ?_
      refine g_getfield lk_100_7 rfl (lay0.on (by decide) rfl) (v := ((77 : Nat) : Int)) (lay0.rf rfl) ?_
      refine m_getfield (u := []) (M := M) lk_100_10 rfl (lay0.on (by decide) rfl) (v := (l : Int)) hct ?_
      refine g_icmp (t := 17) lk_100_13 rfl (by first | (unfold pm_inI; omega) | exact pm_and_in _ _ | exact pm_shr_in _ _ | exact pm_or_in _ _ | exact pm_xor_in _ _ | exact pm_shl_in _ _ | exact pm_cmp_in _ _ | exact pm_b8_in _ | (unfold pm_inI; split <;> omega)) (by first | (unfold pm_inI; omega) | exact pm_and_in _ _ | exact pm_shr_in _ _ | exact pm_or_in _ _ | exact pm_xor_in _ _ | exact pm_shl_in _ _ | exact pm_cmp_in _ _ | exact pm_b8_in _ | (unfold pm_inI; split <;> omega)) (fun h2 => ?_) (fun h2 => ?_)
      · replace h2 : (q : Int) < (l : Int) := h2
        refine g_aload_n lk_100_17 rfl ?_
        refine g_getfield lk_100_18 rfl (lay0.on (by decide) rfl) (v := ((77 : Nat) : Int)) (lay0.rf rfl) ?_
        refine g_getfield lk_100_21 rfl (lay0.on (by decide) rfl) (v := ((78 : Nat) : Int)) (lay0.rf rfl) ?_
        refine g_iload_n lk_100_24 rfl ?_
        refine m_iaload (u := []) (M := M) lk_100_25 (lay0.ay (by decide) rfl) (by omega) (j := k) (by omega) (v := 1) hx' ?_
        refine g_iconst lk_100_26 ?_
        refine g_icmp (t := 34) lk_100_27 rfl (by first | (unfold pm_inI; omega) | exact pm_and_in _ _ | exact pm_shr_in _ _ | exact pm_or_in _ _ | exact pm_xor_in _ _ | exact pm_shl_in _ _ | exact pm_cmp_in _ _ | exact pm_b8_in _ | (unfold pm_inI; split <;> omega)) (by first | (unfold pm_inI; omega) | exact pm_and_in _ _ | exact pm_shr_in _ _ | exact pm_or_in _ _ | exact pm_xor_in _ _ | exact pm_shl_in _ _ | exact pm_cmp_in _ _ | exact pm_b8_in _ | (unfold pm_inI; split <;> omega)) (fun h => absurd h (show ¬ (¬ (1 : Int) = (1 : Int)) by omega)) (fun _ => ?_)
        refine g_iconst lk_100_30 ?_
        refine g_goto (t := 35) lk_100_31 rfl ?_
        refine g_istore (ls' := [(2, ((76 : Nat) : Int)), (0, (k : Int)), (0, (q : Int)), (0, z), (2, ((24 : Nat) : Int)), (0, 1), (9, 0)]) lk_100_35 rfl rfl ?_
        refine g_aload_n lk_100_37 rfl ?_
        refine g_getfield lk_100_38 rfl (lay0.on (by decide) rfl) (v := ((81 : Nat) : Int)) (lay0.rf rfl) ?_
        refine g_iload_n lk_100_41 rfl ?_
        refine g_iload lk_100_42 rfl ?_
        refine g_if (t := 58) lk_100_44 rfl (by first | (unfold pm_inI; omega) | exact pm_and_in _ _ | exact pm_shr_in _ _ | exact pm_or_in _ _ | exact pm_xor_in _ _ | exact pm_shl_in _ _ | exact pm_cmp_in _ _ | exact pm_b8_in _ | (unfold pm_inI; split <;> omega)) (fun h => absurd h (show ¬ ((1 : Int) = (0 : Int)) by omega)) (fun _ => ?_)
        refine g_aload_n lk_100_47 rfl ?_
        refine g_getfield lk_100_48 rfl (lay0.on (by decide) rfl) (v := ((81 : Nat) : Int)) (lay0.rf rfl) ?_
        refine g_iload_n lk_100_51 rfl ?_
        refine m_iaload (u := []) (M := M) lk_100_52 (lay0.ay (by decide) rfl) (by omega) (j := k) (by omega) (v := (e.1 : Int)) r1 ?_
        refine g_iload_n lk_100_53 rfl ?_
        refine g_iand lk_100_54 ?_
        refine g_goto (t := 64) lk_100_55 rfl ?_
        have lay3 : Lay (Mu [(81, pm_upd (pm_ct M 81) q (pm_and (e.1 : Int) z))] M) := lay0.muA (l := []) (a := 81) (f := pm_upd (pm_ct M 81) q (pm_and (e.1 : Int) z)) rfl rfl
        refine m_iastore (u := []) (u' := [(81, pm_upd (pm_ct M 81) q (pm_and (e.1 : Int) z))]) (M := M) lk_100_64 (lay0.ay (by decide) rfl) (by omega) (j := q) (by omega) rfl ?_
        refine g_aload_n lk_100_65 rfl ?_
        refine g_getfield lk_100_66 rfl (lay3.on (by decide) rfl) (v := ((82 : Nat) : Int)) (lay3.rf rfl) ?_
        refine g_iload_n lk_100_69 rfl ?_
        refine g_iload lk_100_70 rfl ?_
        refine g_if (t := 84) lk_100_72 rfl (by first | (unfold pm_inI; omega) | exact pm_and_in _ _ | exact pm_shr_in _ _ | exact pm_or_in _ _ | exact pm_xor_in _ _ | exact pm_shl_in _ _ | exact pm_cmp_in _ _ | exact pm_b8_in _ | (unfold pm_inI; split <;> omega)) (fun h => absurd h (show ¬ ((1 : Int) = (0 : Int)) by omega)) (fun _ => ?_)
        refine g_aload_n lk_100_75 rfl ?_
        refine g_getfield lk_100_76 rfl (lay3.on (by decide) rfl) (v := ((82 : Nat) : Int)) (lay3.rf rfl) ?_
        refine g_iload_n lk_100_79 rfl ?_
        refine m_iaload (u := [(81, pm_upd (pm_ct M 81) q (pm_and (e.1 : Int) z))]) (M := M) lk_100_80 (lay3.ay (by decide) rfl) (by omega) (j := k) (by omega) (v := (e.2.1 : Int)) r2 ?_
        refine g_goto (t := 92) lk_100_81 rfl ?_
        have lay4 : Lay (Mu [(81, pm_upd (pm_ct M 81) q (pm_and (e.1 : Int) z)), (82, pm_upd (pm_ct M 82) q (e.2.1 : Int))] M) := lay3.muA (l := [(81, pm_upd (pm_ct M 81) q (pm_and (e.1 : Int) z))]) (a := 82) (f := pm_upd (pm_ct M 82) q (e.2.1 : Int)) rfl rfl
        refine m_iastore (u := [(81, pm_upd (pm_ct M 81) q (pm_and (e.1 : Int) z))]) (u' := [(81, pm_upd (pm_ct M 81) q (pm_and (e.1 : Int) z)), (82, pm_upd (pm_ct M 82) q (e.2.1 : Int))]) (M := M) lk_100_92 (lay3.ay (by decide) rfl) (by omega) (j := q) (by omega) rfl ?_
        refine g_aload_n lk_100_93 rfl ?_
        refine g_getfield lk_100_94 rfl (lay4.on (by decide) rfl) (v := ((83 : Nat) : Int)) (lay4.rf rfl) ?_
        refine g_iload_n lk_100_97 rfl ?_
        refine g_aload_n lk_100_98 rfl ?_
        refine g_getfield lk_100_99 rfl (lay4.on (by decide) rfl) (v := ((83 : Nat) : Int)) (lay4.rf rfl) ?_
        refine g_iload_n lk_100_102 rfl ?_
        refine m_iaload (u := [(81, pm_upd (pm_ct M 81) q (pm_and (e.1 : Int) z)), (82, pm_upd (pm_ct M 82) q (e.2.1 : Int))]) (M := M) lk_100_103 (lay4.ay (by decide) rfl) (by omega) (j := k) (by omega) (v := (e.2.2.1 : Int)) r3 ?_
        refine g_iconst lk_100_104 ?_
        refine g_iadd lk_100_105 ?_
        have lay5 : Lay (Mu [(81, pm_upd (pm_ct M 81) q (pm_and (e.1 : Int) z)), (82, pm_upd (pm_ct M 82) q (e.2.1 : Int)), (83, pm_upd (pm_ct M 83) q ((e.2.2.1 : Int) + 1))] M) := lay4.muA (l := [(81, pm_upd (pm_ct M 81) q (pm_and (e.1 : Int) z)), (82, pm_upd (pm_ct M 82) q (e.2.1 : Int))]) (a := 83) (f := pm_upd (pm_ct M 83) q ((e.2.2.1 : Int) + 1)) rfl rfl
        refine m_iastore (u := [(81, pm_upd (pm_ct M 81) q (pm_and (e.1 : Int) z)), (82, pm_upd (pm_ct M 82) q (e.2.1 : Int))]) (u' := [(81, pm_upd (pm_ct M 81) q (pm_and (e.1 : Int) z)), (82, pm_upd (pm_ct M 82) q (e.2.1 : Int)), (83, pm_upd (pm_ct M 83) q ((e.2.2.1 : Int) + 1))]) (M := M) lk_100_106 (lay4.ay (by decide) rfl) (by omega) (j := q) (by omega) rfl ?_
        refine g_aload_n lk_100_107 rfl ?_
        refine g_getfield lk_100_108 rfl (lay5.on (by decide) rfl) (v := ((84 : Nat) : Int)) (lay5.rf rfl) ?_
        refine g_iload_n lk_100_111 rfl ?_
        refine g_aload_n lk_100_112 rfl ?_
        refine g_getfield lk_100_113 rfl (lay5.on (by decide) rfl) (v := ((84 : Nat) : Int)) (lay5.rf rfl) ?_
        refine g_iload_n lk_100_116 rfl ?_
        refine m_iaload (u := [(81, pm_upd (pm_ct M 81) q (pm_and (e.1 : Int) z)), (82, pm_upd (pm_ct M 82) q (e.2.1 : Int)), (83, pm_upd (pm_ct M 83) q ((e.2.2.1 : Int) + 1))]) (M := M) lk_100_117 (lay5.ay (by decide) rfl) (by omega) (j := k) (by omega) (v := (e.2.2.2.1 : Int)) r4 ?_
        refine g_iload lk_100_118 rfl ?_
        refine g_if (t := 131) lk_100_120 rfl (by first | (unfold pm_inI; omega) | exact pm_and_in _ _ | exact pm_shr_in _ _ | exact pm_or_in _ _ | exact pm_xor_in _ _ | exact pm_shl_in _ _ | exact pm_cmp_in _ _ | exact pm_b8_in _ | (unfold pm_inI; split <;> omega)) (fun h => absurd h (show ¬ ((1 : Int) = (0 : Int)) by omega)) (fun _ => ?_)
        refine g_aload lk_100_123 rfl ?_
        refine m_getfield (u := [(81, pm_upd (pm_ct M 81) q (pm_and (e.1 : Int) z)), (82, pm_upd (pm_ct M 82) q (e.2.1 : Int)), (83, pm_upd (pm_ct M 83) q ((e.2.2.1 : Int) + 1))]) (M := M) lk_100_125 rfl (lay5.on (by decide) rfl) (v := (tA T : Int)) m3 ?_
        refine g_goto (t := 136) lk_100_128 rfl ?_
        refine g_iadd lk_100_136 ?_
        have lay6 : Lay (Mu [(81, pm_upd (pm_ct M 81) q (pm_and (e.1 : Int) z)), (82, pm_upd (pm_ct M 82) q (e.2.1 : Int)), (83, pm_upd (pm_ct M 83) q ((e.2.2.1 : Int) + 1)), (84, pm_upd (pm_ct M 84) q ((e.2.2.2.1 : Int) + (tA T : Int)))] M) := lay5.muA (l := [(81, pm_upd (pm_ct M 81) q (pm_and (e.1 : Int) z)), (82, pm_upd (pm_ct M 82) q (e.2.1 : Int)), (83, pm_upd (pm_ct M 83) q ((e.2.2.1 : Int) + 1))]) (a := 84) (f := pm_upd (pm_ct M 84) q ((e.2.2.2.1 : Int) + (tA T : Int))) rfl rfl
        refine m_iastore (u := [(81, pm_upd (pm_ct M 81) q (pm_and (e.1 : Int) z)), (82, pm_upd (pm_ct M 82) q (e.2.1 : Int)), (83, pm_upd (pm_ct M 83) q ((e.2.2.1 : Int) + 1))]) (u' := [(81, pm_upd (pm_ct M 81) q (pm_and (e.1 : Int) z)), (82, pm_upd (pm_ct M 82) q (e.2.1 : Int)), (83, pm_upd (pm_ct M 83) q ((e.2.2.1 : Int) + 1)), (84, pm_upd (pm_ct M 84) q ((e.2.2.2.1 : Int) + (tA T : Int)))]) (M := M) lk_100_137 (lay5.ay (by decide) rfl) (by omega) (j := q) (by omega) rfl ?_
        refine g_aload_n lk_100_138 rfl ?_
        refine g_getfield lk_100_139 rfl (lay6.on (by decide) rfl) (v := ((86 : Nat) : Int)) (lay6.rf rfl) ?_
        refine g_iload_n lk_100_142 rfl ?_
        refine m_iaload (u := [(81, pm_upd (pm_ct M 81) q (pm_and (e.1 : Int) z)), (82, pm_upd (pm_ct M 82) q (e.2.1 : Int)), (83, pm_upd (pm_ct M 83) q ((e.2.2.1 : Int) + 1)), (84, pm_upd (pm_ct M 84) q ((e.2.2.2.1 : Int) + (tA T : Int)))]) (M := M) lk_100_143 (lay6.ay (by decide) rfl) (by omega) (j := k) (by omega) (v := (y : Int)) r6 ?_
        refine g_if (t := 169) lk_100_144 rfl (by first | (unfold pm_inI; omega) | exact pm_and_in _ _ | exact pm_shr_in _ _ | exact pm_or_in _ _ | exact pm_xor_in _ _ | exact pm_shl_in _ _ | exact pm_cmp_in _ _ | exact pm_b8_in _ | (unfold pm_inI; split <;> omega)) (fun h7 => ?_) (fun h7 => ?_)
        · replace h7 : (y : Int) = 0 := h7
          refine g_iconst lk_100_169 ?_
          refine g_istore (ls' := [(2, ((76 : Nat) : Int)), (0, (k : Int)), (0, (q : Int)), (0, z), (2, ((24 : Nat) : Int)), (0, 1), (0, 0)]) lk_100_170 rfl rfl ?_
          refine g_aload_n lk_100_172 rfl ?_
          refine g_getfield lk_100_173 rfl (lay6.on (by decide) rfl) (v := ((85 : Nat) : Int)) (lay6.rf rfl) ?_
          refine g_iload_n lk_100_176 rfl ?_
          refine g_aload_n lk_100_177 rfl ?_
          refine g_getfield lk_100_178 rfl (lay6.on (by decide) rfl) (v := ((85 : Nat) : Int)) (lay6.rf rfl) ?_
          refine g_iload_n lk_100_181 rfl ?_
          refine m_iaload (u := [(81, pm_upd (pm_ct M 81) q (pm_and (e.1 : Int) z)), (82, pm_upd (pm_ct M 82) q (e.2.1 : Int)), (83, pm_upd (pm_ct M 83) q ((e.2.2.1 : Int) + 1)), (84, pm_upd (pm_ct M 84) q ((e.2.2.2.1 : Int) + (tA T : Int)))]) (M := M) lk_100_182 (lay6.ay (by decide) rfl) (by omega) (j := k) (by omega) (v := (e.2.2.2.2.1 : Int)) r5 ?_
          refine g_iload lk_100_183 rfl ?_
          refine g_if (t := 192) lk_100_185 rfl (by first | (unfold pm_inI; omega) | exact pm_and_in _ _ | exact pm_shr_in _ _ | exact pm_or_in _ _ | exact pm_xor_in _ _ | exact pm_shl_in _ _ | exact pm_cmp_in _ _ | exact pm_b8_in _ | (unfold pm_inI; split <;> omega)) (fun _ => ?_) (fun h => absurd (show (0 : Int) = (0 : Int) by omega) h)
          refine g_iconst lk_100_192 ?_
          refine g_iadd lk_100_193 ?_
          have lay8 : Lay (Mu [(81, pm_upd (pm_ct M 81) q (pm_and (e.1 : Int) z)), (82, pm_upd (pm_ct M 82) q (e.2.1 : Int)), (83, pm_upd (pm_ct M 83) q ((e.2.2.1 : Int) + 1)), (84, pm_upd (pm_ct M 84) q ((e.2.2.2.1 : Int) + (tA T : Int))), (85, pm_upd (pm_ct M 85) q ((e.2.2.2.2.1 : Int) + 0))] M) := lay6.muA (l := [(81, pm_upd (pm_ct M 81) q (pm_and (e.1 : Int) z)), (82, pm_upd (pm_ct M 82) q (e.2.1 : Int)), (83, pm_upd (pm_ct M 83) q ((e.2.2.1 : Int) + 1)), (84, pm_upd (pm_ct M 84) q ((e.2.2.2.1 : Int) + (tA T : Int)))]) (a := 85) (f := pm_upd (pm_ct M 85) q ((e.2.2.2.2.1 : Int) + 0)) rfl rfl
          refine m_iastore (u := [(81, pm_upd (pm_ct M 81) q (pm_and (e.1 : Int) z)), (82, pm_upd (pm_ct M 82) q (e.2.1 : Int)), (83, pm_upd (pm_ct M 83) q ((e.2.2.1 : Int) + 1)), (84, pm_upd (pm_ct M 84) q ((e.2.2.2.1 : Int) + (tA T : Int)))]) (u' := [(81, pm_upd (pm_ct M 81) q (pm_and (e.1 : Int) z)), (82, pm_upd (pm_ct M 82) q (e.2.1 : Int)), (83, pm_upd (pm_ct M 83) q ((e.2.2.1 : Int) + 1)), (84, pm_upd (pm_ct M 84) q ((e.2.2.2.1 : Int) + (tA T : Int))), (85, pm_upd (pm_ct M 85) q ((e.2.2.2.2.1 : Int) + 0))]) (M := M) lk_100_194 (lay6.ay (by decide) rfl) (by omega) (j := q) (by omega) rfl ?_
          refine g_aload_n lk_100_195 rfl ?_
          refine g_getfield lk_100_196 rfl (lay8.on (by decide) rfl) (v := ((86 : Nat) : Int)) (lay8.rf rfl) ?_
          refine g_iload_n lk_100_199 rfl ?_
          refine g_aload_n lk_100_200 rfl ?_
          refine g_getfield lk_100_201 rfl (lay8.on (by decide) rfl) (v := ((77 : Nat) : Int)) (lay8.rf rfl) ?_
          refine g_getfield lk_100_204 rfl (lay8.on (by decide) rfl) (v := ((78 : Nat) : Int)) (lay8.rf rfl) ?_
          refine g_iload_n lk_100_207 rfl ?_
          refine m_iaload (u := [(81, pm_upd (pm_ct M 81) q (pm_and (e.1 : Int) z)), (82, pm_upd (pm_ct M 82) q (e.2.1 : Int)), (83, pm_upd (pm_ct M 83) q ((e.2.2.1 : Int) + 1)), (84, pm_upd (pm_ct M 84) q ((e.2.2.2.1 : Int) + (tA T : Int))), (85, pm_upd (pm_ct M 85) q ((e.2.2.2.2.1 : Int) + 0))]) (M := M) lk_100_208 (lay8.ay (by decide) rfl) (by omega) (j := k) (by omega) (v := 1) hx' ?_
          have lay9 : Lay (Mu [(81, pm_upd (pm_ct M 81) q (pm_and (e.1 : Int) z)), (82, pm_upd (pm_ct M 82) q (e.2.1 : Int)), (83, pm_upd (pm_ct M 83) q ((e.2.2.1 : Int) + 1)), (84, pm_upd (pm_ct M 84) q ((e.2.2.2.1 : Int) + (tA T : Int))), (85, pm_upd (pm_ct M 85) q ((e.2.2.2.2.1 : Int) + 0)), (86, pm_upd (pm_ct M 86) q 1)] M) := lay8.muA (l := [(81, pm_upd (pm_ct M 81) q (pm_and (e.1 : Int) z)), (82, pm_upd (pm_ct M 82) q (e.2.1 : Int)), (83, pm_upd (pm_ct M 83) q ((e.2.2.1 : Int) + 1)), (84, pm_upd (pm_ct M 84) q ((e.2.2.2.1 : Int) + (tA T : Int))), (85, pm_upd (pm_ct M 85) q ((e.2.2.2.2.1 : Int) + 0))]) (a := 86) (f := pm_upd (pm_ct M 86) q 1) rfl rfl
          refine m_iastore (u := [(81, pm_upd (pm_ct M 81) q (pm_and (e.1 : Int) z)), (82, pm_upd (pm_ct M 82) q (e.2.1 : Int)), (83, pm_upd (pm_ct M 83) q ((e.2.2.1 : Int) + 1)), (84, pm_upd (pm_ct M 84) q ((e.2.2.2.1 : Int) + (tA T : Int))), (85, pm_upd (pm_ct M 85) q ((e.2.2.2.2.1 : Int) + 0))]) (u' := [(81, pm_upd (pm_ct M 81) q (pm_and (e.1 : Int) z)), (82, pm_upd (pm_ct M 82) q (e.2.1 : Int)), (83, pm_upd (pm_ct M 83) q ((e.2.2.1 : Int) + 1)), (84, pm_upd (pm_ct M 84) q ((e.2.2.2.1 : Int) + (tA T : Int))), (85, pm_upd (pm_ct M 85) q ((e.2.2.2.2.1 : Int) + 0)), (86, pm_upd (pm_ct M 86) q 1)]) (M := M) lk_100_209 (lay8.ay (by decide) rfl) (by omega) (j := q) (by omega) rfl ?_
          refine g_return lk_100_210 ?_
          exact fin _ _ _ _ _ _ _ rfl lay9 (by rw [z1, d1]) (by rw [d2]) (by omega) (by rw [p1]; omega) (by rw [if_pos (by omega)]; omega) rfl
        · replace h7 : ¬ ((y : Int) = 0) := h7
          refine g_aload_n lk_100_147 rfl ?_
          refine g_getfield lk_100_148 rfl (lay6.on (by decide) rfl) (v := ((86 : Nat) : Int)) (lay6.rf rfl) ?_
          refine g_iload_n lk_100_151 rfl ?_
          refine m_iaload (u := [(81, pm_upd (pm_ct M 81) q (pm_and (e.1 : Int) z)), (82, pm_upd (pm_ct M 82) q (e.2.1 : Int)), (83, pm_upd (pm_ct M 83) q ((e.2.2.1 : Int) + 1)), (84, pm_upd (pm_ct M 84) q ((e.2.2.2.1 : Int) + (tA T : Int)))]) (M := M) lk_100_152 (lay6.ay (by decide) rfl) (by omega) (j := k) (by omega) (v := (y : Int)) r6 ?_
          refine g_aload_n lk_100_153 rfl ?_
          refine g_getfield lk_100_154 rfl (lay6.on (by decide) rfl) (v := ((77 : Nat) : Int)) (lay6.rf rfl) ?_
          refine g_getfield lk_100_157 rfl (lay6.on (by decide) rfl) (v := ((78 : Nat) : Int)) (lay6.rf rfl) ?_
          refine g_iload_n lk_100_160 rfl ?_
          refine m_iaload (u := [(81, pm_upd (pm_ct M 81) q (pm_and (e.1 : Int) z)), (82, pm_upd (pm_ct M 82) q (e.2.1 : Int)), (83, pm_upd (pm_ct M 83) q ((e.2.2.1 : Int) + 1)), (84, pm_upd (pm_ct M 84) q ((e.2.2.2.1 : Int) + (tA T : Int)))]) (M := M) lk_100_161 (lay6.ay (by decide) rfl) (by omega) (j := k) (by omega) (v := 1) hx' ?_
          refine g_icmp (t := 169) lk_100_162 rfl (by first | (unfold pm_inI; omega) | exact pm_and_in _ _ | exact pm_shr_in _ _ | exact pm_or_in _ _ | exact pm_xor_in _ _ | exact pm_shl_in _ _ | exact pm_cmp_in _ _ | exact pm_b8_in _ | (unfold pm_inI; split <;> omega)) (by first | (unfold pm_inI; omega) | exact pm_and_in _ _ | exact pm_shr_in _ _ | exact pm_or_in _ _ | exact pm_xor_in _ _ | exact pm_shl_in _ _ | exact pm_cmp_in _ _ | exact pm_b8_in _ | (unfold pm_inI; split <;> omega)) (fun h10 => ?_) (fun h10 => ?_)
          · replace h10 : (y : Int) = 1 := h10
            refine g_iconst lk_100_169 ?_
            refine g_istore (ls' := [(2, ((76 : Nat) : Int)), (0, (k : Int)), (0, (q : Int)), (0, z), (2, ((24 : Nat) : Int)), (0, 1), (0, 0)]) lk_100_170 rfl rfl ?_
            refine g_aload_n lk_100_172 rfl ?_
            refine g_getfield lk_100_173 rfl (lay6.on (by decide) rfl) (v := ((85 : Nat) : Int)) (lay6.rf rfl) ?_
            refine g_iload_n lk_100_176 rfl ?_
            refine g_aload_n lk_100_177 rfl ?_
            refine g_getfield lk_100_178 rfl (lay6.on (by decide) rfl) (v := ((85 : Nat) : Int)) (lay6.rf rfl) ?_
            refine g_iload_n lk_100_181 rfl ?_
            refine m_iaload (u := [(81, pm_upd (pm_ct M 81) q (pm_and (e.1 : Int) z)), (82, pm_upd (pm_ct M 82) q (e.2.1 : Int)), (83, pm_upd (pm_ct M 83) q ((e.2.2.1 : Int) + 1)), (84, pm_upd (pm_ct M 84) q ((e.2.2.2.1 : Int) + (tA T : Int)))]) (M := M) lk_100_182 (lay6.ay (by decide) rfl) (by omega) (j := k) (by omega) (v := (e.2.2.2.2.1 : Int)) r5 ?_
            refine g_iload lk_100_183 rfl ?_
            refine g_if (t := 192) lk_100_185 rfl (by first | (unfold pm_inI; omega) | exact pm_and_in _ _ | exact pm_shr_in _ _ | exact pm_or_in _ _ | exact pm_xor_in _ _ | exact pm_shl_in _ _ | exact pm_cmp_in _ _ | exact pm_b8_in _ | (unfold pm_inI; split <;> omega)) (fun _ => ?_) (fun h => absurd (show (0 : Int) = (0 : Int) by omega) h)
            refine g_iconst lk_100_192 ?_
            refine g_iadd lk_100_193 ?_
            have lay11 : Lay (Mu [(81, pm_upd (pm_ct M 81) q (pm_and (e.1 : Int) z)), (82, pm_upd (pm_ct M 82) q (e.2.1 : Int)), (83, pm_upd (pm_ct M 83) q ((e.2.2.1 : Int) + 1)), (84, pm_upd (pm_ct M 84) q ((e.2.2.2.1 : Int) + (tA T : Int))), (85, pm_upd (pm_ct M 85) q ((e.2.2.2.2.1 : Int) + 0))] M) := lay6.muA (l := [(81, pm_upd (pm_ct M 81) q (pm_and (e.1 : Int) z)), (82, pm_upd (pm_ct M 82) q (e.2.1 : Int)), (83, pm_upd (pm_ct M 83) q ((e.2.2.1 : Int) + 1)), (84, pm_upd (pm_ct M 84) q ((e.2.2.2.1 : Int) + (tA T : Int)))]) (a := 85) (f := pm_upd (pm_ct M 85) q ((e.2.2.2.2.1 : Int) + 0)) rfl rfl
            refine m_iastore (u := [(81, pm_upd (pm_ct M 81) q (pm_and (e.1 : Int) z)), (82, pm_upd (pm_ct M 82) q (e.2.1 : Int)), (83, pm_upd (pm_ct M 83) q ((e.2.2.1 : Int) + 1)), (84, pm_upd (pm_ct M 84) q ((e.2.2.2.1 : Int) + (tA T : Int)))]) (u' := [(81, pm_upd (pm_ct M 81) q (pm_and (e.1 : Int) z)), (82, pm_upd (pm_ct M 82) q (e.2.1 : Int)), (83, pm_upd (pm_ct M 83) q ((e.2.2.1 : Int) + 1)), (84, pm_upd (pm_ct M 84) q ((e.2.2.2.1 : Int) + (tA T : Int))), (85, pm_upd (pm_ct M 85) q ((e.2.2.2.2.1 : Int) + 0))]) (M := M) lk_100_194 (lay6.ay (by decide) rfl) (by omega) (j := q) (by omega) rfl ?_
            refine g_aload_n lk_100_195 rfl ?_
            refine g_getfield lk_100_196 rfl (lay11.on (by decide) rfl) (v := ((86 : Nat) : Int)) (lay11.rf rfl) ?_
            refine g_iload_n lk_100_199 rfl ?_
            refine g_aload_n lk_100_200 rfl ?_
            refine g_getfield lk_100_201 rfl (lay11.on (by decide) rfl) (v := ((77 : Nat) : Int)) (lay11.rf rfl) ?_
            refine g_getfield lk_100_204 rfl (lay11.on (by decide) rfl) (v := ((78 : Nat) : Int)) (lay11.rf rfl) ?_
            refine g_iload_n lk_100_207 rfl ?_
            refine m_iaload (u := [(81, pm_upd (pm_ct M 81) q (pm_and (e.1 : Int) z)), (82, pm_upd (pm_ct M 82) q (e.2.1 : Int)), (83, pm_upd (pm_ct M 83) q ((e.2.2.1 : Int) + 1)), (84, pm_upd (pm_ct M 84) q ((e.2.2.2.1 : Int) + (tA T : Int))), (85, pm_upd (pm_ct M 85) q ((e.2.2.2.2.1 : Int) + 0))]) (M := M) lk_100_208 (lay11.ay (by decide) rfl) (by omega) (j := k) (by omega) (v := 1) hx' ?_
            have lay12 : Lay (Mu [(81, pm_upd (pm_ct M 81) q (pm_and (e.1 : Int) z)), (82, pm_upd (pm_ct M 82) q (e.2.1 : Int)), (83, pm_upd (pm_ct M 83) q ((e.2.2.1 : Int) + 1)), (84, pm_upd (pm_ct M 84) q ((e.2.2.2.1 : Int) + (tA T : Int))), (85, pm_upd (pm_ct M 85) q ((e.2.2.2.2.1 : Int) + 0)), (86, pm_upd (pm_ct M 86) q 1)] M) := lay11.muA (l := [(81, pm_upd (pm_ct M 81) q (pm_and (e.1 : Int) z)), (82, pm_upd (pm_ct M 82) q (e.2.1 : Int)), (83, pm_upd (pm_ct M 83) q ((e.2.2.1 : Int) + 1)), (84, pm_upd (pm_ct M 84) q ((e.2.2.2.1 : Int) + (tA T : Int))), (85, pm_upd (pm_ct M 85) q ((e.2.2.2.2.1 : Int) + 0))]) (a := 86) (f := pm_upd (pm_ct M 86) q 1) rfl rfl
            refine m_iastore (u := [(81, pm_upd (pm_ct M 81) q (pm_and (e.1 : Int) z)), (82, pm_upd (pm_ct M 82) q (e.2.1 : Int)), (83, pm_upd (pm_ct M 83) q ((e.2.2.1 : Int) + 1)), (84, pm_upd (pm_ct M 84) q ((e.2.2.2.1 : Int) + (tA T : Int))), (85, pm_upd (pm_ct M 85) q ((e.2.2.2.2.1 : Int) + 0))]) (u' := [(81, pm_upd (pm_ct M 81) q (pm_and (e.1 : Int) z)), (82, pm_upd (pm_ct M 82) q (e.2.1 : Int)), (83, pm_upd (pm_ct M 83) q ((e.2.2.1 : Int) + 1)), (84, pm_upd (pm_ct M 84) q ((e.2.2.2.1 : Int) + (tA T : Int))), (85, pm_upd (pm_ct M 85) q ((e.2.2.2.2.1 : Int) + 0)), (86, pm_upd (pm_ct M 86) q 1)]) (M := M) lk_100_209 (lay11.ay (by decide) rfl) (by omega) (j := q) (by omega) rfl ?_
            refine g_return lk_100_210 ?_
            exact fin _ _ _ _ _ _ _ rfl lay12 (by rw [z1, d1]) (by rw [d2]) (by omega) (by rw [p1]; omega) (by rw [if_neg (by omega), if_pos (by omega)]; omega) rfl
          · replace h10 : ¬ ((y : Int) = 1) := h10
            refine g_iconst lk_100_165 ?_
            refine g_goto (t := 170) lk_100_166 rfl ?_
            refine g_istore (ls' := [(2, ((76 : Nat) : Int)), (0, (k : Int)), (0, (q : Int)), (0, z), (2, ((24 : Nat) : Int)), (0, 1), (0, 1)]) lk_100_170 rfl rfl ?_
            refine g_aload_n lk_100_172 rfl ?_
            refine g_getfield lk_100_173 rfl (lay6.on (by decide) rfl) (v := ((85 : Nat) : Int)) (lay6.rf rfl) ?_
            refine g_iload_n lk_100_176 rfl ?_
            refine g_aload_n lk_100_177 rfl ?_
            refine g_getfield lk_100_178 rfl (lay6.on (by decide) rfl) (v := ((85 : Nat) : Int)) (lay6.rf rfl) ?_
            refine g_iload_n lk_100_181 rfl ?_
            refine m_iaload (u := [(81, pm_upd (pm_ct M 81) q (pm_and (e.1 : Int) z)), (82, pm_upd (pm_ct M 82) q (e.2.1 : Int)), (83, pm_upd (pm_ct M 83) q ((e.2.2.1 : Int) + 1)), (84, pm_upd (pm_ct M 84) q ((e.2.2.2.1 : Int) + (tA T : Int)))]) (M := M) lk_100_182 (lay6.ay (by decide) rfl) (by omega) (j := k) (by omega) (v := (e.2.2.2.2.1 : Int)) r5 ?_
            refine g_iload lk_100_183 rfl ?_
            refine g_if (t := 192) lk_100_185 rfl (by first | (unfold pm_inI; omega) | exact pm_and_in _ _ | exact pm_shr_in _ _ | exact pm_or_in _ _ | exact pm_xor_in _ _ | exact pm_shl_in _ _ | exact pm_cmp_in _ _ | exact pm_b8_in _ | (unfold pm_inI; split <;> omega)) (fun h => absurd h (show ¬ ((1 : Int) = (0 : Int)) by omega)) (fun _ => ?_)
            refine g_iconst lk_100_188 ?_
            refine g_goto (t := 193) lk_100_189 rfl ?_
            refine g_iadd lk_100_193 ?_
            have lay13 : Lay (Mu [(81, pm_upd (pm_ct M 81) q (pm_and (e.1 : Int) z)), (82, pm_upd (pm_ct M 82) q (e.2.1 : Int)), (83, pm_upd (pm_ct M 83) q ((e.2.2.1 : Int) + 1)), (84, pm_upd (pm_ct M 84) q ((e.2.2.2.1 : Int) + (tA T : Int))), (85, pm_upd (pm_ct M 85) q ((e.2.2.2.2.1 : Int) + 1))] M) := lay6.muA (l := [(81, pm_upd (pm_ct M 81) q (pm_and (e.1 : Int) z)), (82, pm_upd (pm_ct M 82) q (e.2.1 : Int)), (83, pm_upd (pm_ct M 83) q ((e.2.2.1 : Int) + 1)), (84, pm_upd (pm_ct M 84) q ((e.2.2.2.1 : Int) + (tA T : Int)))]) (a := 85) (f := pm_upd (pm_ct M 85) q ((e.2.2.2.2.1 : Int) + 1)) rfl rfl
            refine m_iastore (u := [(81, pm_upd (pm_ct M 81) q (pm_and (e.1 : Int) z)), (82, pm_upd (pm_ct M 82) q (e.2.1 : Int)), (83, pm_upd (pm_ct M 83) q ((e.2.2.1 : Int) + 1)), (84, pm_upd (pm_ct M 84) q ((e.2.2.2.1 : Int) + (tA T : Int)))]) (u' := [(81, pm_upd (pm_ct M 81) q (pm_and (e.1 : Int) z)), (82, pm_upd (pm_ct M 82) q (e.2.1 : Int)), (83, pm_upd (pm_ct M 83) q ((e.2.2.1 : Int) + 1)), (84, pm_upd (pm_ct M 84) q ((e.2.2.2.1 : Int) + (tA T : Int))), (85, pm_upd (pm_ct M 85) q ((e.2.2.2.2.1 : Int) + 1))]) (M := M) lk_100_194 (lay6.ay (by decide) rfl) (by omega) (j := q) (by omega) rfl ?_
            refine g_aload_n lk_100_195 rfl ?_
            refine g_getfield lk_100_196 rfl (lay13.on (by decide) rfl) (v := ((86 : Nat) : Int)) (lay13.rf rfl) ?_
            refine g_iload_n lk_100_199 rfl ?_
            refine g_aload_n lk_100_200 rfl ?_
            refine g_getfield lk_100_201 rfl (lay13.on (by decide) rfl) (v := ((77 : Nat) : Int)) (lay13.rf rfl) ?_
            refine g_getfield lk_100_204 rfl (lay13.on (by decide) rfl) (v := ((78 : Nat) : Int)) (lay13.rf rfl) ?_
            refine g_iload_n lk_100_207 rfl ?_
            refine m_iaload (u := [(81, pm_upd (pm_ct M 81) q (pm_and (e.1 : Int) z)), (82, pm_upd (pm_ct M 82) q (e.2.1 : Int)), (83, pm_upd (pm_ct M 83) q ((e.2.2.1 : Int) + 1)), (84, pm_upd (pm_ct M 84) q ((e.2.2.2.1 : Int) + (tA T : Int))), (85, pm_upd (pm_ct M 85) q ((e.2.2.2.2.1 : Int) + 1))]) (M := M) lk_100_208 (lay13.ay (by decide) rfl) (by omega) (j := k) (by omega) (v := 1) hx' ?_
            have lay14 : Lay (Mu [(81, pm_upd (pm_ct M 81) q (pm_and (e.1 : Int) z)), (82, pm_upd (pm_ct M 82) q (e.2.1 : Int)), (83, pm_upd (pm_ct M 83) q ((e.2.2.1 : Int) + 1)), (84, pm_upd (pm_ct M 84) q ((e.2.2.2.1 : Int) + (tA T : Int))), (85, pm_upd (pm_ct M 85) q ((e.2.2.2.2.1 : Int) + 1)), (86, pm_upd (pm_ct M 86) q 1)] M) := lay13.muA (l := [(81, pm_upd (pm_ct M 81) q (pm_and (e.1 : Int) z)), (82, pm_upd (pm_ct M 82) q (e.2.1 : Int)), (83, pm_upd (pm_ct M 83) q ((e.2.2.1 : Int) + 1)), (84, pm_upd (pm_ct M 84) q ((e.2.2.2.1 : Int) + (tA T : Int))), (85, pm_upd (pm_ct M 85) q ((e.2.2.2.2.1 : Int) + 1))]) (a := 86) (f := pm_upd (pm_ct M 86) q 1) rfl rfl
            refine m_iastore (u := [(81, pm_upd (pm_ct M 81) q (pm_and (e.1 : Int) z)), (82, pm_upd (pm_ct M 82) q (e.2.1 : Int)), (83, pm_upd (pm_ct M 83) q ((e.2.2.1 : Int) + 1)), (84, pm_upd (pm_ct M 84) q ((e.2.2.2.1 : Int) + (tA T : Int))), (85, pm_upd (pm_ct M 85) q ((e.2.2.2.2.1 : Int) + 1))]) (u' := [(81, pm_upd (pm_ct M 81) q (pm_and (e.1 : Int) z)), (82, pm_upd (pm_ct M 82) q (e.2.1 : Int)), (83, pm_upd (pm_ct M 83) q ((e.2.2.1 : Int) + 1)), (84, pm_upd (pm_ct M 84) q ((e.2.2.2.1 : Int) + (tA T : Int))), (85, pm_upd (pm_ct M 85) q ((e.2.2.2.2.1 : Int) + 1)), (86, pm_upd (pm_ct M 86) q 1)]) (M := M) lk_100_209 (lay13.ay (by decide) rfl) (by omega) (j := q) (by omega) rfl ?_
            refine g_return lk_100_210 ?_
            exact fin _ _ _ _ _ _ _ rfl lay14 (by rw [z1, d1]) (by rw [d2]) (by omega) (by rw [p1]; omega) (by rw [if_neg (by omega), if_neg (by omega)]; omega) rfl
      · replace h2 : ¬ ((q : Int) < (l : Int)) := h2
        omega
  · rw [hx1] at hx tt fin ⊢
    have hx' : pm_ct M 78 k = 2 := hx
    have d1 : (dStp T 2 s b e).1 = e.1 := rfl
    have d2 : (dStp T 2 s b e).2.1 = ctS b e.2.1 s := rfl
    have p1 : prK T 2 = tB T := rfl
    rw [← hy, tt] at fin
    refine g_iload_n lk_100_0 rfl ?_
    refine g_iload_n lk_100_1 rfl ?_
    refine g_icmp (t := 16) lk_100_2 rfl (by first | (unfold pm_inI; omega) | exact pm_and_in _ _ | exact pm_shr_in _ _ | exact pm_or_in _ _ | exact pm_xor_in _ _ | exact pm_shl_in _ _ | exact pm_cmp_in _ _ | exact pm_b8_in _ | (unfold pm_inI; split <;> omega)) (by first | (unfold pm_inI; omega) | exact pm_and_in _ _ | exact pm_shr_in _ _ | exact pm_or_in _ _ | exact pm_xor_in _ _ | exact pm_shl_in _ _ | exact pm_cmp_in _ _ | exact pm_b8_in _ | (unfold pm_inI; split <;> omega)) (fun h1 => ?_) (fun h1 => ?_)
    · replace h1 : (q : Int) ≤ (k : Int) := h1
      omega
    · replace h1 : ¬ ((q : Int) ≤ (k : Int)) := h1
      refine g_iload_n lk_100_5 rfl ?_
      refine g_aload_n lk_100_6 rfl ?_
      refine g_getfield lk_100_7 rfl (lay0.on (by decide) rfl) (v := ((77 : Nat) : Int)) (lay0.rf rfl) ?_
      refine m_getfield (u := []) (M := M) lk_100_10 rfl (lay0.on (by decide) rfl) (v := (l : Int)) hct ?_
      refine g_icmp (t := 17) lk_100_13 rfl (by first | (unfold pm_inI; omega) | exact pm_and_in _ _ | exact pm_shr_in _ _ | exact pm_or_in _ _ | exact pm_xor_in _ _ | exact pm_shl_in _ _ | exact pm_cmp_in _ _ | exact pm_b8_in _ | (unfold pm_inI; split <;> omega)) (by first | (unfold pm_inI; omega) | exact pm_and_in _ _ | exact pm_shr_in _ _ | exact pm_or_in _ _ | exact pm_xor_in _ _ | exact pm_shl_in _ _ | exact pm_cmp_in _ _ | exact pm_b8_in _ | (unfold pm_inI; split <;> omega)) (fun h2 => ?_) (fun h2 => ?_)
      · replace h2 : (q : Int) < (l : Int) := h2
        refine g_aload_n lk_100_17 rfl ?_
        refine g_getfield lk_100_18 rfl (lay0.on (by decide) rfl) (v := ((77 : Nat) : Int)) (lay0.rf rfl) ?_
        refine g_getfield lk_100_21 rfl (lay0.on (by decide) rfl) (v := ((78 : Nat) : Int)) (lay0.rf rfl) ?_
        refine g_iload_n lk_100_24 rfl ?_
        refine m_iaload (u := []) (M := M) lk_100_25 (lay0.ay (by decide) rfl) (by omega) (j := k) (by omega) (v := 2) hx' ?_
        refine g_iconst lk_100_26 ?_
        refine g_icmp (t := 34) lk_100_27 rfl (by first | (unfold pm_inI; omega) | exact pm_and_in _ _ | exact pm_shr_in _ _ | exact pm_or_in _ _ | exact pm_xor_in _ _ | exact pm_shl_in _ _ | exact pm_cmp_in _ _ | exact pm_b8_in _ | (unfold pm_inI; split <;> omega)) (by first | (unfold pm_inI; omega) | exact pm_and_in _ _ | exact pm_shr_in _ _ | exact pm_or_in _ _ | exact pm_xor_in _ _ | exact pm_shl_in _ _ | exact pm_cmp_in _ _ | exact pm_b8_in _ | (unfold pm_inI; split <;> omega)) (fun _ => ?_) (fun h => absurd (show ¬ (2 : Int) = (1 : Int) by omega) h)
        refine g_iconst lk_100_34 ?_
        refine g_istore (ls' := [(2, ((76 : Nat) : Int)), (0, (k : Int)), (0, (q : Int)), (0, z), (2, ((24 : Nat) : Int)), (0, 0), (9, 0)]) lk_100_35 rfl rfl ?_
        refine g_aload_n lk_100_37 rfl ?_
        refine g_getfield lk_100_38 rfl (lay0.on (by decide) rfl) (v := ((81 : Nat) : Int)) (lay0.rf rfl) ?_
        refine g_iload_n lk_100_41 rfl ?_
        refine g_iload lk_100_42 rfl ?_
        refine g_if (t := 58) lk_100_44 rfl (by first | (unfold pm_inI; omega) | exact pm_and_in _ _ | exact pm_shr_in _ _ | exact pm_or_in _ _ | exact pm_xor_in _ _ | exact pm_shl_in _ _ | exact pm_cmp_in _ _ | exact pm_b8_in _ | (unfold pm_inI; split <;> omega)) (fun _ => ?_) (fun h => absurd (show (0 : Int) = (0 : Int) by omega) h)
        refine g_aload_n lk_100_58 rfl ?_
        refine g_getfield lk_100_59 rfl (lay0.on (by decide) rfl) (v := ((81 : Nat) : Int)) (lay0.rf rfl) ?_
        refine g_iload_n lk_100_62 rfl ?_
        refine m_iaload (u := []) (M := M) lk_100_63 (lay0.ay (by decide) rfl) (by omega) (j := k) (by omega) (v := (e.1 : Int)) r1 ?_
        have lay3 : Lay (Mu [(81, pm_upd (pm_ct M 81) q (e.1 : Int))] M) := lay0.muA (l := []) (a := 81) (f := pm_upd (pm_ct M 81) q (e.1 : Int)) rfl rfl
        refine m_iastore (u := []) (u' := [(81, pm_upd (pm_ct M 81) q (e.1 : Int))]) (M := M) lk_100_64 (lay0.ay (by decide) rfl) (by omega) (j := q) (by omega) rfl ?_
        refine g_aload_n lk_100_65 rfl ?_
        refine g_getfield lk_100_66 rfl (lay3.on (by decide) rfl) (v := ((82 : Nat) : Int)) (lay3.rf rfl) ?_
        refine g_iload_n lk_100_69 rfl ?_
        refine g_iload lk_100_70 rfl ?_
        refine g_if (t := 84) lk_100_72 rfl (by first | (unfold pm_inI; omega) | exact pm_and_in _ _ | exact pm_shr_in _ _ | exact pm_or_in _ _ | exact pm_xor_in _ _ | exact pm_shl_in _ _ | exact pm_cmp_in _ _ | exact pm_b8_in _ | (unfold pm_inI; split <;> omega)) (fun _ => ?_) (fun h => absurd (show (0 : Int) = (0 : Int) by omega) h)
        refine g_aload_n lk_100_84 rfl ?_
        refine g_getfield lk_100_85 rfl (lay3.on (by decide) rfl) (v := ((82 : Nat) : Int)) (lay3.rf rfl) ?_
        refine g_iload_n lk_100_88 rfl ?_
        refine m_iaload (u := [(81, pm_upd (pm_ct M 81) q (e.1 : Int))]) (M := M) lk_100_89 (lay3.ay (by decide) rfl) (by omega) (j := k) (by omega) (v := (e.2.1 : Int)) r2 ?_
        refine g_iload_n lk_100_90 rfl ?_
        refine g_iand lk_100_91 ?_
        have lay4 : Lay (Mu [(81, pm_upd (pm_ct M 81) q (e.1 : Int)), (82, pm_upd (pm_ct M 82) q (pm_and (e.2.1 : Int) z))] M) := lay3.muA (l := [(81, pm_upd (pm_ct M 81) q (e.1 : Int))]) (a := 82) (f := pm_upd (pm_ct M 82) q (pm_and (e.2.1 : Int) z)) rfl rfl
        refine m_iastore (u := [(81, pm_upd (pm_ct M 81) q (e.1 : Int))]) (u' := [(81, pm_upd (pm_ct M 81) q (e.1 : Int)), (82, pm_upd (pm_ct M 82) q (pm_and (e.2.1 : Int) z))]) (M := M) lk_100_92 (lay3.ay (by decide) rfl) (by omega) (j := q) (by omega) rfl ?_
        refine g_aload_n lk_100_93 rfl ?_
        refine g_getfield lk_100_94 rfl (lay4.on (by decide) rfl) (v := ((83 : Nat) : Int)) (lay4.rf rfl) ?_
        refine g_iload_n lk_100_97 rfl ?_
        refine g_aload_n lk_100_98 rfl ?_
        refine g_getfield lk_100_99 rfl (lay4.on (by decide) rfl) (v := ((83 : Nat) : Int)) (lay4.rf rfl) ?_
        refine g_iload_n lk_100_102 rfl ?_
        refine m_iaload (u := [(81, pm_upd (pm_ct M 81) q (e.1 : Int)), (82, pm_upd (pm_ct M 82) q (pm_and (e.2.1 : Int) z))]) (M := M) lk_100_103 (lay4.ay (by decide) rfl) (by omega) (j := k) (by omega) (v := (e.2.2.1 : Int)) r3 ?_
        refine g_iconst lk_100_104 ?_
        refine g_iadd lk_100_105 ?_
        have lay5 : Lay (Mu [(81, pm_upd (pm_ct M 81) q (e.1 : Int)), (82, pm_upd (pm_ct M 82) q (pm_and (e.2.1 : Int) z)), (83, pm_upd (pm_ct M 83) q ((e.2.2.1 : Int) + 1))] M) := lay4.muA (l := [(81, pm_upd (pm_ct M 81) q (e.1 : Int)), (82, pm_upd (pm_ct M 82) q (pm_and (e.2.1 : Int) z))]) (a := 83) (f := pm_upd (pm_ct M 83) q ((e.2.2.1 : Int) + 1)) rfl rfl
        refine m_iastore (u := [(81, pm_upd (pm_ct M 81) q (e.1 : Int)), (82, pm_upd (pm_ct M 82) q (pm_and (e.2.1 : Int) z))]) (u' := [(81, pm_upd (pm_ct M 81) q (e.1 : Int)), (82, pm_upd (pm_ct M 82) q (pm_and (e.2.1 : Int) z)), (83, pm_upd (pm_ct M 83) q ((e.2.2.1 : Int) + 1))]) (M := M) lk_100_106 (lay4.ay (by decide) rfl) (by omega) (j := q) (by omega) rfl ?_
        refine g_aload_n lk_100_107 rfl ?_
        refine g_getfield lk_100_108 rfl (lay5.on (by decide) rfl) (v := ((84 : Nat) : Int)) (lay5.rf rfl) ?_
        refine g_iload_n lk_100_111 rfl ?_
        refine g_aload_n lk_100_112 rfl ?_
        refine g_getfield lk_100_113 rfl (lay5.on (by decide) rfl) (v := ((84 : Nat) : Int)) (lay5.rf rfl) ?_
        refine g_iload_n lk_100_116 rfl ?_
        refine m_iaload (u := [(81, pm_upd (pm_ct M 81) q (e.1 : Int)), (82, pm_upd (pm_ct M 82) q (pm_and (e.2.1 : Int) z)), (83, pm_upd (pm_ct M 83) q ((e.2.2.1 : Int) + 1))]) (M := M) lk_100_117 (lay5.ay (by decide) rfl) (by omega) (j := k) (by omega) (v := (e.2.2.2.1 : Int)) r4 ?_
        refine g_iload lk_100_118 rfl ?_
        refine g_if (t := 131) lk_100_120 rfl (by first | (unfold pm_inI; omega) | exact pm_and_in _ _ | exact pm_shr_in _ _ | exact pm_or_in _ _ | exact pm_xor_in _ _ | exact pm_shl_in _ _ | exact pm_cmp_in _ _ | exact pm_b8_in _ | (unfold pm_inI; split <;> omega)) (fun _ => ?_) (fun h => absurd (show (0 : Int) = (0 : Int) by omega) h)
        refine g_aload lk_100_131 rfl ?_
        refine m_getfield (u := [(81, pm_upd (pm_ct M 81) q (e.1 : Int)), (82, pm_upd (pm_ct M 82) q (pm_and (e.2.1 : Int) z)), (83, pm_upd (pm_ct M 83) q ((e.2.2.1 : Int) + 1))]) (M := M) lk_100_133 rfl (lay5.on (by decide) rfl) (v := (tB T : Int)) m4 ?_
        refine g_iadd lk_100_136 ?_
        have lay6 : Lay (Mu [(81, pm_upd (pm_ct M 81) q (e.1 : Int)), (82, pm_upd (pm_ct M 82) q (pm_and (e.2.1 : Int) z)), (83, pm_upd (pm_ct M 83) q ((e.2.2.1 : Int) + 1)), (84, pm_upd (pm_ct M 84) q ((e.2.2.2.1 : Int) + (tB T : Int)))] M) := lay5.muA (l := [(81, pm_upd (pm_ct M 81) q (e.1 : Int)), (82, pm_upd (pm_ct M 82) q (pm_and (e.2.1 : Int) z)), (83, pm_upd (pm_ct M 83) q ((e.2.2.1 : Int) + 1))]) (a := 84) (f := pm_upd (pm_ct M 84) q ((e.2.2.2.1 : Int) + (tB T : Int))) rfl rfl
        refine m_iastore (u := [(81, pm_upd (pm_ct M 81) q (e.1 : Int)), (82, pm_upd (pm_ct M 82) q (pm_and (e.2.1 : Int) z)), (83, pm_upd (pm_ct M 83) q ((e.2.2.1 : Int) + 1))]) (u' := [(81, pm_upd (pm_ct M 81) q (e.1 : Int)), (82, pm_upd (pm_ct M 82) q (pm_and (e.2.1 : Int) z)), (83, pm_upd (pm_ct M 83) q ((e.2.2.1 : Int) + 1)), (84, pm_upd (pm_ct M 84) q ((e.2.2.2.1 : Int) + (tB T : Int)))]) (M := M) lk_100_137 (lay5.ay (by decide) rfl) (by omega) (j := q) (by omega) rfl ?_
        refine g_aload_n lk_100_138 rfl ?_
        refine g_getfield lk_100_139 rfl (lay6.on (by decide) rfl) (v := ((86 : Nat) : Int)) (lay6.rf rfl) ?_
        refine g_iload_n lk_100_142 rfl ?_
        refine m_iaload (u := [(81, pm_upd (pm_ct M 81) q (e.1 : Int)), (82, pm_upd (pm_ct M 82) q (pm_and (e.2.1 : Int) z)), (83, pm_upd (pm_ct M 83) q ((e.2.2.1 : Int) + 1)), (84, pm_upd (pm_ct M 84) q ((e.2.2.2.1 : Int) + (tB T : Int)))]) (M := M) lk_100_143 (lay6.ay (by decide) rfl) (by omega) (j := k) (by omega) (v := (y : Int)) r6 ?_
        refine g_if (t := 169) lk_100_144 rfl (by first | (unfold pm_inI; omega) | exact pm_and_in _ _ | exact pm_shr_in _ _ | exact pm_or_in _ _ | exact pm_xor_in _ _ | exact pm_shl_in _ _ | exact pm_cmp_in _ _ | exact pm_b8_in _ | (unfold pm_inI; split <;> omega)) (fun h7 => ?_) (fun h7 => ?_)
        · replace h7 : (y : Int) = 0 := h7
          refine g_iconst lk_100_169 ?_
          refine g_istore (ls' := [(2, ((76 : Nat) : Int)), (0, (k : Int)), (0, (q : Int)), (0, z), (2, ((24 : Nat) : Int)), (0, 0), (0, 0)]) lk_100_170 rfl rfl ?_
          refine g_aload_n lk_100_172 rfl ?_
          refine g_getfield lk_100_173 rfl (lay6.on (by decide) rfl) (v := ((85 : Nat) : Int)) (lay6.rf rfl) ?_
          refine g_iload_n lk_100_176 rfl ?_
          refine g_aload_n lk_100_177 rfl ?_
          refine g_getfield lk_100_178 rfl (lay6.on (by decide) rfl) (v := ((85 : Nat) : Int)) (lay6.rf rfl) ?_
          refine g_iload_n lk_100_181 rfl ?_
          refine m_iaload (u := [(81, pm_upd (pm_ct M 81) q (e.1 : Int)), (82, pm_upd (pm_ct M 82) q (pm_and (e.2.1 : Int) z)), (83, pm_upd (pm_ct M 83) q ((e.2.2.1 : Int) + 1)), (84, pm_upd (pm_ct M 84) q ((e.2.2.2.1 : Int) + (tB T : Int)))]) (M := M) lk_100_182 (lay6.ay (by decide) rfl) (by omega) (j := k) (by omega) (v := (e.2.2.2.2.1 : Int)) r5 ?_
          refine g_iload lk_100_183 rfl ?_
          refine g_if (t := 192) lk_100_185 rfl (by first | (unfold pm_inI; omega) | exact pm_and_in _ _ | exact pm_shr_in _ _ | exact pm_or_in _ _ | exact pm_xor_in _ _ | exact pm_shl_in _ _ | exact pm_cmp_in _ _ | exact pm_b8_in _ | (unfold pm_inI; split <;> omega)) (fun _ => ?_) (fun h => absurd (show (0 : Int) = (0 : Int) by omega) h)
          refine g_iconst lk_100_192 ?_
          refine g_iadd lk_100_193 ?_
          have lay8 : Lay (Mu [(81, pm_upd (pm_ct M 81) q (e.1 : Int)), (82, pm_upd (pm_ct M 82) q (pm_and (e.2.1 : Int) z)), (83, pm_upd (pm_ct M 83) q ((e.2.2.1 : Int) + 1)), (84, pm_upd (pm_ct M 84) q ((e.2.2.2.1 : Int) + (tB T : Int))), (85, pm_upd (pm_ct M 85) q ((e.2.2.2.2.1 : Int) + 0))] M) := lay6.muA (l := [(81, pm_upd (pm_ct M 81) q (e.1 : Int)), (82, pm_upd (pm_ct M 82) q (pm_and (e.2.1 : Int) z)), (83, pm_upd (pm_ct M 83) q ((e.2.2.1 : Int) + 1)), (84, pm_upd (pm_ct M 84) q ((e.2.2.2.1 : Int) + (tB T : Int)))]) (a := 85) (f := pm_upd (pm_ct M 85) q ((e.2.2.2.2.1 : Int) + 0)) rfl rfl
          refine m_iastore (u := [(81, pm_upd (pm_ct M 81) q (e.1 : Int)), (82, pm_upd (pm_ct M 82) q (pm_and (e.2.1 : Int) z)), (83, pm_upd (pm_ct M 83) q ((e.2.2.1 : Int) + 1)), (84, pm_upd (pm_ct M 84) q ((e.2.2.2.1 : Int) + (tB T : Int)))]) (u' := [(81, pm_upd (pm_ct M 81) q (e.1 : Int)), (82, pm_upd (pm_ct M 82) q (pm_and (e.2.1 : Int) z)), (83, pm_upd (pm_ct M 83) q ((e.2.2.1 : Int) + 1)), (84, pm_upd (pm_ct M 84) q ((e.2.2.2.1 : Int) + (tB T : Int))), (85, pm_upd (pm_ct M 85) q ((e.2.2.2.2.1 : Int) + 0))]) (M := M) lk_100_194 (lay6.ay (by decide) rfl) (by omega) (j := q) (by omega) rfl ?_
          refine g_aload_n lk_100_195 rfl ?_
          refine g_getfield lk_100_196 rfl (lay8.on (by decide) rfl) (v := ((86 : Nat) : Int)) (lay8.rf rfl) ?_
          refine g_iload_n lk_100_199 rfl ?_
          refine g_aload_n lk_100_200 rfl ?_
          refine g_getfield lk_100_201 rfl (lay8.on (by decide) rfl) (v := ((77 : Nat) : Int)) (lay8.rf rfl) ?_
          refine g_getfield lk_100_204 rfl (lay8.on (by decide) rfl) (v := ((78 : Nat) : Int)) (lay8.rf rfl) ?_
          refine g_iload_n lk_100_207 rfl ?_
          refine m_iaload (u := [(81, pm_upd (pm_ct M 81) q (e.1 : Int)), (82, pm_upd (pm_ct M 82) q (pm_and (e.2.1 : Int) z)), (83, pm_upd (pm_ct M 83) q ((e.2.2.1 : Int) + 1)), (84, pm_upd (pm_ct M 84) q ((e.2.2.2.1 : Int) + (tB T : Int))), (85, pm_upd (pm_ct M 85) q ((e.2.2.2.2.1 : Int) + 0))]) (M := M) lk_100_208 (lay8.ay (by decide) rfl) (by omega) (j := k) (by omega) (v := 2) hx' ?_
          have lay9 : Lay (Mu [(81, pm_upd (pm_ct M 81) q (e.1 : Int)), (82, pm_upd (pm_ct M 82) q (pm_and (e.2.1 : Int) z)), (83, pm_upd (pm_ct M 83) q ((e.2.2.1 : Int) + 1)), (84, pm_upd (pm_ct M 84) q ((e.2.2.2.1 : Int) + (tB T : Int))), (85, pm_upd (pm_ct M 85) q ((e.2.2.2.2.1 : Int) + 0)), (86, pm_upd (pm_ct M 86) q 2)] M) := lay8.muA (l := [(81, pm_upd (pm_ct M 81) q (e.1 : Int)), (82, pm_upd (pm_ct M 82) q (pm_and (e.2.1 : Int) z)), (83, pm_upd (pm_ct M 83) q ((e.2.2.1 : Int) + 1)), (84, pm_upd (pm_ct M 84) q ((e.2.2.2.1 : Int) + (tB T : Int))), (85, pm_upd (pm_ct M 85) q ((e.2.2.2.2.1 : Int) + 0))]) (a := 86) (f := pm_upd (pm_ct M 86) q 2) rfl rfl
          refine m_iastore (u := [(81, pm_upd (pm_ct M 81) q (e.1 : Int)), (82, pm_upd (pm_ct M 82) q (pm_and (e.2.1 : Int) z)), (83, pm_upd (pm_ct M 83) q ((e.2.2.1 : Int) + 1)), (84, pm_upd (pm_ct M 84) q ((e.2.2.2.1 : Int) + (tB T : Int))), (85, pm_upd (pm_ct M 85) q ((e.2.2.2.2.1 : Int) + 0))]) (u' := [(81, pm_upd (pm_ct M 81) q (e.1 : Int)), (82, pm_upd (pm_ct M 82) q (pm_and (e.2.1 : Int) z)), (83, pm_upd (pm_ct M 83) q ((e.2.2.1 : Int) + 1)), (84, pm_upd (pm_ct M 84) q ((e.2.2.2.1 : Int) + (tB T : Int))), (85, pm_upd (pm_ct M 85) q ((e.2.2.2.2.1 : Int) + 0)), (86, pm_upd (pm_ct M 86) q 2)]) (M := M) lk_100_209 (lay8.ay (by decide) rfl) (by omega) (j := q) (by omega) rfl ?_
          refine g_return lk_100_210 ?_
          exact fin _ _ _ _ _ _ _ rfl lay9 (by rw [d1]) (by rw [z2, d2]) (by omega) (by rw [p1]; omega) (by rw [if_pos (by omega)]; omega) rfl
        · replace h7 : ¬ ((y : Int) = 0) := h7
          refine g_aload_n lk_100_147 rfl ?_
          refine g_getfield lk_100_148 rfl (lay6.on (by decide) rfl) (v := ((86 : Nat) : Int)) (lay6.rf rfl) ?_
          refine g_iload_n lk_100_151 rfl ?_
          refine m_iaload (u := [(81, pm_upd (pm_ct M 81) q (e.1 : Int)), (82, pm_upd (pm_ct M 82) q (pm_and (e.2.1 : Int) z)), (83, pm_upd (pm_ct M 83) q ((e.2.2.1 : Int) + 1)), (84, pm_upd (pm_ct M 84) q ((e.2.2.2.1 : Int) + (tB T : Int)))]) (M := M) lk_100_152 (lay6.ay (by decide) rfl) (by omega) (j := k) (by omega) (v := (y : Int)) r6 ?_
          refine g_aload_n lk_100_153 rfl ?_
          refine g_getfield lk_100_154 rfl (lay6.on (by decide) rfl) (v := ((77 : Nat) : Int)) (lay6.rf rfl) ?_
          refine g_getfield lk_100_157 rfl (lay6.on (by decide) rfl) (v := ((78 : Nat) : Int)) (lay6.rf rfl) ?_
          refine g_iload_n lk_100_160 rfl ?_
          refine m_iaload (u := [(81, pm_upd (pm_ct M 81) q (e.1 : Int)), (82, pm_upd (pm_ct M 82) q (pm_and (e.2.1 : Int) z)), (83, pm_upd (pm_ct M 83) q ((e.2.2.1 : Int) + 1)), (84, pm_upd (pm_ct M 84) q ((e.2.2.2.1 : Int) + (tB T : Int)))]) (M := M) lk_100_161 (lay6.ay (by decide) rfl) (by omega) (j := k) (by omega) (v := 2) hx' ?_
          refine g_icmp (t := 169) lk_100_162 rfl (by first | (unfold pm_inI; omega) | exact pm_and_in _ _ | exact pm_shr_in _ _ | exact pm_or_in _ _ | exact pm_xor_in _ _ | exact pm_shl_in _ _ | exact pm_cmp_in _ _ | exact pm_b8_in _ | (unfold pm_inI; split <;> omega)) (by first | (unfold pm_inI; omega) | exact pm_and_in _ _ | exact pm_shr_in _ _ | exact pm_or_in _ _ | exact pm_xor_in _ _ | exact pm_shl_in _ _ | exact pm_cmp_in _ _ | exact pm_b8_in _ | (unfold pm_inI; split <;> omega)) (fun h10 => ?_) (fun h10 => ?_)
          · replace h10 : (y : Int) = 2 := h10
            refine g_iconst lk_100_169 ?_
            refine g_istore (ls' := [(2, ((76 : Nat) : Int)), (0, (k : Int)), (0, (q : Int)), (0, z), (2, ((24 : Nat) : Int)), (0, 0), (0, 0)]) lk_100_170 rfl rfl ?_
            refine g_aload_n lk_100_172 rfl ?_
            refine g_getfield lk_100_173 rfl (lay6.on (by decide) rfl) (v := ((85 : Nat) : Int)) (lay6.rf rfl) ?_
            refine g_iload_n lk_100_176 rfl ?_
            refine g_aload_n lk_100_177 rfl ?_
            refine g_getfield lk_100_178 rfl (lay6.on (by decide) rfl) (v := ((85 : Nat) : Int)) (lay6.rf rfl) ?_
            refine g_iload_n lk_100_181 rfl ?_
            refine m_iaload (u := [(81, pm_upd (pm_ct M 81) q (e.1 : Int)), (82, pm_upd (pm_ct M 82) q (pm_and (e.2.1 : Int) z)), (83, pm_upd (pm_ct M 83) q ((e.2.2.1 : Int) + 1)), (84, pm_upd (pm_ct M 84) q ((e.2.2.2.1 : Int) + (tB T : Int)))]) (M := M) lk_100_182 (lay6.ay (by decide) rfl) (by omega) (j := k) (by omega) (v := (e.2.2.2.2.1 : Int)) r5 ?_
            refine g_iload lk_100_183 rfl ?_
            refine g_if (t := 192) lk_100_185 rfl (by first | (unfold pm_inI; omega) | exact pm_and_in _ _ | exact pm_shr_in _ _ | exact pm_or_in _ _ | exact pm_xor_in _ _ | exact pm_shl_in _ _ | exact pm_cmp_in _ _ | exact pm_b8_in _ | (unfold pm_inI; split <;> omega)) (fun _ => ?_) (fun h => absurd (show (0 : Int) = (0 : Int) by omega) h)
            refine g_iconst lk_100_192 ?_
            refine g_iadd lk_100_193 ?_
            have lay11 : Lay (Mu [(81, pm_upd (pm_ct M 81) q (e.1 : Int)), (82, pm_upd (pm_ct M 82) q (pm_and (e.2.1 : Int) z)), (83, pm_upd (pm_ct M 83) q ((e.2.2.1 : Int) + 1)), (84, pm_upd (pm_ct M 84) q ((e.2.2.2.1 : Int) + (tB T : Int))), (85, pm_upd (pm_ct M 85) q ((e.2.2.2.2.1 : Int) + 0))] M) := lay6.muA (l := [(81, pm_upd (pm_ct M 81) q (e.1 : Int)), (82, pm_upd (pm_ct M 82) q (pm_and (e.2.1 : Int) z)), (83, pm_upd (pm_ct M 83) q ((e.2.2.1 : Int) + 1)), (84, pm_upd (pm_ct M 84) q ((e.2.2.2.1 : Int) + (tB T : Int)))]) (a := 85) (f := pm_upd (pm_ct M 85) q ((e.2.2.2.2.1 : Int) + 0)) rfl rfl
            refine m_iastore (u := [(81, pm_upd (pm_ct M 81) q (e.1 : Int)), (82, pm_upd (pm_ct M 82) q (pm_and (e.2.1 : Int) z)), (83, pm_upd (pm_ct M 83) q ((e.2.2.1 : Int) + 1)), (84, pm_upd (pm_ct M 84) q ((e.2.2.2.1 : Int) + (tB T : Int)))]) (u' := [(81, pm_upd (pm_ct M 81) q (e.1 : Int)), (82, pm_upd (pm_ct M 82) q (pm_and (e.2.1 : Int) z)), (83, pm_upd (pm_ct M 83) q ((e.2.2.1 : Int) + 1)), (84, pm_upd (pm_ct M 84) q ((e.2.2.2.1 : Int) + (tB T : Int))), (85, pm_upd (pm_ct M 85) q ((e.2.2.2.2.1 : Int) + 0))]) (M := M) lk_100_194 (lay6.ay (by decide) rfl) (by omega) (j := q) (by omega) rfl ?_
            refine g_aload_n lk_100_195 rfl ?_
            refine g_getfield lk_100_196 rfl (lay11.on (by decide) rfl) (v := ((86 : Nat) : Int)) (lay11.rf rfl) ?_
            refine g_iload_n lk_100_199 rfl ?_
            refine g_aload_n lk_100_200 rfl ?_
            refine g_getfield lk_100_201 rfl (lay11.on (by decide) rfl) (v := ((77 : Nat) : Int)) (lay11.rf rfl) ?_
            refine g_getfield lk_100_204 rfl (lay11.on (by decide) rfl) (v := ((78 : Nat) : Int)) (lay11.rf rfl) ?_
            refine g_iload_n lk_100_207 rfl ?_
            refine m_iaload (u := [(81, pm_upd (pm_ct M 81) q (e.1 : Int)), (82, pm_upd (pm_ct M 82) q (pm_and (e.2.1 : Int) z)), (83, pm_upd (pm_ct M 83) q ((e.2.2.1 : Int) + 1)), (84, pm_upd (pm_ct M 84) q ((e.2.2.2.1 : Int) + (tB T : Int))), (85, pm_upd (pm_ct M 85) q ((e.2.2.2.2.1 : Int) + 0))]) (M := M) lk_100_208 (lay11.ay (by decide) rfl) (by omega) (j := k) (by omega) (v := 2) hx' ?_
            have lay12 : Lay (Mu [(81, pm_upd (pm_ct M 81) q (e.1 : Int)), (82, pm_upd (pm_ct M 82) q (pm_and (e.2.1 : Int) z)), (83, pm_upd (pm_ct M 83) q ((e.2.2.1 : Int) + 1)), (84, pm_upd (pm_ct M 84) q ((e.2.2.2.1 : Int) + (tB T : Int))), (85, pm_upd (pm_ct M 85) q ((e.2.2.2.2.1 : Int) + 0)), (86, pm_upd (pm_ct M 86) q 2)] M) := lay11.muA (l := [(81, pm_upd (pm_ct M 81) q (e.1 : Int)), (82, pm_upd (pm_ct M 82) q (pm_and (e.2.1 : Int) z)), (83, pm_upd (pm_ct M 83) q ((e.2.2.1 : Int) + 1)), (84, pm_upd (pm_ct M 84) q ((e.2.2.2.1 : Int) + (tB T : Int))), (85, pm_upd (pm_ct M 85) q ((e.2.2.2.2.1 : Int) + 0))]) (a := 86) (f := pm_upd (pm_ct M 86) q 2) rfl rfl
            refine m_iastore (u := [(81, pm_upd (pm_ct M 81) q (e.1 : Int)), (82, pm_upd (pm_ct M 82) q (pm_and (e.2.1 : Int) z)), (83, pm_upd (pm_ct M 83) q ((e.2.2.1 : Int) + 1)), (84, pm_upd (pm_ct M 84) q ((e.2.2.2.1 : Int) + (tB T : Int))), (85, pm_upd (pm_ct M 85) q ((e.2.2.2.2.1 : Int) + 0))]) (u' := [(81, pm_upd (pm_ct M 81) q (e.1 : Int)), (82, pm_upd (pm_ct M 82) q (pm_and (e.2.1 : Int) z)), (83, pm_upd (pm_ct M 83) q ((e.2.2.1 : Int) + 1)), (84, pm_upd (pm_ct M 84) q ((e.2.2.2.1 : Int) + (tB T : Int))), (85, pm_upd (pm_ct M 85) q ((e.2.2.2.2.1 : Int) + 0)), (86, pm_upd (pm_ct M 86) q 2)]) (M := M) lk_100_209 (lay11.ay (by decide) rfl) (by omega) (j := q) (by omega) rfl ?_
            refine g_return lk_100_210 ?_
            exact fin _ _ _ _ _ _ _ rfl lay12 (by rw [d1]) (by rw [z2, d2]) (by omega) (by rw [p1]; omega) (by rw [if_neg (by omega), if_pos (by omega)]; omega) rfl
          · replace h10 : ¬ ((y : Int) = 2) := h10
            refine g_iconst lk_100_165 ?_
            refine g_goto (t := 170) lk_100_166 rfl ?_
            refine g_istore (ls' := [(2, ((76 : Nat) : Int)), (0, (k : Int)), (0, (q : Int)), (0, z), (2, ((24 : Nat) : Int)), (0, 0), (0, 1)]) lk_100_170 rfl rfl ?_
            refine g_aload_n lk_100_172 rfl ?_
            refine g_getfield lk_100_173 rfl (lay6.on (by decide) rfl) (v := ((85 : Nat) : Int)) (lay6.rf rfl) ?_
            refine g_iload_n lk_100_176 rfl ?_
            refine g_aload_n lk_100_177 rfl ?_
            refine g_getfield lk_100_178 rfl (lay6.on (by decide) rfl) (v := ((85 : Nat) : Int)) (lay6.rf rfl) ?_
            refine g_iload_n lk_100_181 rfl ?_
            refine m_iaload (u := [(81, pm_upd (pm_ct M 81) q (e.1 : Int)), (82, pm_upd (pm_ct M 82) q (pm_and (e.2.1 : Int) z)), (83, pm_upd (pm_ct M 83) q ((e.2.2.1 : Int) + 1)), (84, pm_upd (pm_ct M 84) q ((e.2.2.2.1 : Int) + (tB T : Int)))]) (M := M) lk_100_182 (lay6.ay (by decide) rfl) (by omega) (j := k) (by omega) (v := (e.2.2.2.2.1 : Int)) r5 ?_
            refine g_iload lk_100_183 rfl ?_
            refine g_if (t := 192) lk_100_185 rfl (by first | (unfold pm_inI; omega) | exact pm_and_in _ _ | exact pm_shr_in _ _ | exact pm_or_in _ _ | exact pm_xor_in _ _ | exact pm_shl_in _ _ | exact pm_cmp_in _ _ | exact pm_b8_in _ | (unfold pm_inI; split <;> omega)) (fun h => absurd h (show ¬ ((1 : Int) = (0 : Int)) by omega)) (fun _ => ?_)
            refine g_iconst lk_100_188 ?_
            refine g_goto (t := 193) lk_100_189 rfl ?_
            refine g_iadd lk_100_193 ?_
            have lay13 : Lay (Mu [(81, pm_upd (pm_ct M 81) q (e.1 : Int)), (82, pm_upd (pm_ct M 82) q (pm_and (e.2.1 : Int) z)), (83, pm_upd (pm_ct M 83) q ((e.2.2.1 : Int) + 1)), (84, pm_upd (pm_ct M 84) q ((e.2.2.2.1 : Int) + (tB T : Int))), (85, pm_upd (pm_ct M 85) q ((e.2.2.2.2.1 : Int) + 1))] M) := lay6.muA (l := [(81, pm_upd (pm_ct M 81) q (e.1 : Int)), (82, pm_upd (pm_ct M 82) q (pm_and (e.2.1 : Int) z)), (83, pm_upd (pm_ct M 83) q ((e.2.2.1 : Int) + 1)), (84, pm_upd (pm_ct M 84) q ((e.2.2.2.1 : Int) + (tB T : Int)))]) (a := 85) (f := pm_upd (pm_ct M 85) q ((e.2.2.2.2.1 : Int) + 1)) rfl rfl
            refine m_iastore (u := [(81, pm_upd (pm_ct M 81) q (e.1 : Int)), (82, pm_upd (pm_ct M 82) q (pm_and (e.2.1 : Int) z)), (83, pm_upd (pm_ct M 83) q ((e.2.2.1 : Int) + 1)), (84, pm_upd (pm_ct M 84) q ((e.2.2.2.1 : Int) + (tB T : Int)))]) (u' := [(81, pm_upd (pm_ct M 81) q (e.1 : Int)), (82, pm_upd (pm_ct M 82) q (pm_and (e.2.1 : Int) z)), (83, pm_upd (pm_ct M 83) q ((e.2.2.1 : Int) + 1)), (84, pm_upd (pm_ct M 84) q ((e.2.2.2.1 : Int) + (tB T : Int))), (85, pm_upd (pm_ct M 85) q ((e.2.2.2.2.1 : Int) + 1))]) (M := M) lk_100_194 (lay6.ay (by decide) rfl) (by omega) (j := q) (by omega) rfl ?_
            refine g_aload_n lk_100_195 rfl ?_
            refine g_getfield lk_100_196 rfl (lay13.on (by decide) rfl) (v := ((86 : Nat) : Int)) (lay13.rf rfl) ?_
            refine g_iload_n lk_100_199 rfl ?_
            refine g_aload_n lk_100_200 rfl ?_
            refine g_getfield lk_100_201 rfl (lay13.on (by decide) rfl) (v := ((77 : Nat) : Int)) (lay13.rf rfl) ?_
            refine g_getfield lk_100_204 rfl (lay13.on (by decide) rfl) (v := ((78 : Nat) : Int)) (lay13.rf rfl) ?_
            refine g_iload_n lk_100_207 rfl ?_
            refine m_iaload (u := [(81, pm_upd (pm_ct M 81) q (e.1 : Int)), (82, pm_upd (pm_ct M 82) q (pm_and (e.2.1 : Int) z)), (83, pm_upd (pm_ct M 83) q ((e.2.2.1 : Int) + 1)), (84, pm_upd (pm_ct M 84) q ((e.2.2.2.1 : Int) + (tB T : Int))), (85, pm_upd (pm_ct M 85) q ((e.2.2.2.2.1 : Int) + 1))]) (M := M) lk_100_208 (lay13.ay (by decide) rfl) (by omega) (j := k) (by omega) (v := 2) hx' ?_
            have lay14 : Lay (Mu [(81, pm_upd (pm_ct M 81) q (e.1 : Int)), (82, pm_upd (pm_ct M 82) q (pm_and (e.2.1 : Int) z)), (83, pm_upd (pm_ct M 83) q ((e.2.2.1 : Int) + 1)), (84, pm_upd (pm_ct M 84) q ((e.2.2.2.1 : Int) + (tB T : Int))), (85, pm_upd (pm_ct M 85) q ((e.2.2.2.2.1 : Int) + 1)), (86, pm_upd (pm_ct M 86) q 2)] M) := lay13.muA (l := [(81, pm_upd (pm_ct M 81) q (e.1 : Int)), (82, pm_upd (pm_ct M 82) q (pm_and (e.2.1 : Int) z)), (83, pm_upd (pm_ct M 83) q ((e.2.2.1 : Int) + 1)), (84, pm_upd (pm_ct M 84) q ((e.2.2.2.1 : Int) + (tB T : Int))), (85, pm_upd (pm_ct M 85) q ((e.2.2.2.2.1 : Int) + 1))]) (a := 86) (f := pm_upd (pm_ct M 86) q 2) rfl rfl
            refine m_iastore (u := [(81, pm_upd (pm_ct M 81) q (e.1 : Int)), (82, pm_upd (pm_ct M 82) q (pm_and (e.2.1 : Int) z)), (83, pm_upd (pm_ct M 83) q ((e.2.2.1 : Int) + 1)), (84, pm_upd (pm_ct M 84) q ((e.2.2.2.1 : Int) + (tB T : Int))), (85, pm_upd (pm_ct M 85) q ((e.2.2.2.2.1 : Int) + 1))]) (u' := [(81, pm_upd (pm_ct M 81) q (e.1 : Int)), (82, pm_upd (pm_ct M 82) q (pm_and (e.2.1 : Int) z)), (83, pm_upd (pm_ct M 83) q ((e.2.2.1 : Int) + 1)), (84, pm_upd (pm_ct M 84) q ((e.2.2.2.1 : Int) + (tB T : Int))), (85, pm_upd (pm_ct M 85) q ((e.2.2.2.2.1 : Int) + 1)), (86, pm_upd (pm_ct M 86) q 2)]) (M := M) lk_100_209 (lay13.ay (by decide) rfl) (by omega) (j := q) (by omega) rfl ?_
            refine g_return lk_100_210 ?_
            exact fin _ _ _ _ _ _ _ rfl lay14 (by rw [d1]) (by rw [z2, d2]) (by omega) (by rw [p1]; omega) (by rw [if_neg (by omega), if_neg (by omega)]; omega) rfl
      · replace h2 : ¬ ((q : Int) < (l : Int)) := h2
        omega
set_option maxHeartbeats 4000000 in
theorem c_Told_follow2 {d mc ms : Nat} {M : pm_M} (lay0 : Lay M) {T : Tab} (hT : TabOK T) (hM0 : TbAt M 24 T) {L : List Nd} {p dp : Nat → Nat} (hD : TrD L dp) (hp : PaOK L p) (hct0 : pm_ct M 77 3 = (L.length : Int)) (hL0 : NdL M 78 79 80 L) :
    pm_E (d + 2) 99 [(2, ((76 : Nat) : Int)), (2, ((24 : Nat) : Int))] M mc ms (fun ρ M' => ρ = none ∧ Lay M' ∧ Fr [81, 82, 83, 84, 85, 86] M M' ∧ CmAt M' 76 T L p) := by
  obtain ⟨Q, hQ⟩ : ∃ Q : pm_Q, Q = (fun ρ M' => ρ = none ∧ Lay M' ∧ Fr [81, 82, 83, 84, 85, 86] M M' ∧ CmAt M' 76 T L p) := ⟨_, rfl⟩
  rw [← hQ]
  have l31 := hD.2.1
  obtain ⟨l, hl⟩ : ∃ l, l = L.length := ⟨_, rfl⟩
  rw [← hl] at hct0 l31
  have loop : ∀ (n i : Nat) (N : pm_M), i + n = l → Lay N → Fr [81, 82, 83, 84, 85, 86] M N → A6 N 76 T L p i → Wp (d + 2) 99 50 [(2, ((76 : Nat) : Int)), (2, ((24 : Nat) : Int)), (0, (i : Int))] [] N mc ms Q := by
    intro n
    induction n with
    | zero =>
      intro i N hi lay fr ha
      have hct : pm_ct N 77 3 = (l : Int) := by rw [fr.ct (by decide)]; exact hct0
      have e : i = l := by omega
      rw [e] at ha ⊢
      refine g_iload_n lk_99_50 rfl ?_
      refine g_aload_n lk_99_51 rfl ?_
      refine g_getfield lk_99_52 rfl (lay.on (by decide) rfl) (v := ((77 : Nat) : Int)) (lay.rf rfl) ?_
      refine m_getfield (u := []) (M := N) lk_99_55 rfl (lay.on (by decide) rfl) (v := (l : Int)) hct ?_
      refine g_icmp (t := 123) lk_99_58 rfl (by first | (unfold pm_inI; omega) | exact pm_and_in _ _ | exact pm_shr_in _ _ | exact pm_or_in _ _ | exact pm_xor_in _ _ | exact pm_shl_in _ _ | exact pm_cmp_in _ _ | exact pm_b8_in _ | (unfold pm_inI; split <;> omega)) (by first | (unfold pm_inI; omega) | exact pm_and_in _ _ | exact pm_shr_in _ _ | exact pm_or_in _ _ | exact pm_xor_in _ _ | exact pm_shl_in _ _ | exact pm_cmp_in _ _ | exact pm_b8_in _ | (unfold pm_inI; split <;> omega)) (fun h1 => ?_) (fun h1 => ?_)
      · replace h1 : (l : Int) ≤ (l : Int) := h1
        refine g_return lk_99_123 ?_
        rw [hQ]
        exact ⟨rfl, lay, fr, A6.cm hp (by rw [← hl]; exact ha)⟩
      · replace h1 : ¬ ((l : Int) ≤ (l : Int)) := h1
        omega
    | succ n ih =>
      intro i N hi lay fr ha
      have hct : pm_ct N 77 3 = (l : Int) := by rw [fr.ct (by decide)]; exact hct0
      have hk : i < L.length := by omega
      obtain ⟨x1, x2, x3⟩ := hL0 i _ (ndA_get hk)
      have y1 : pm_ct N 78 i = ((ndA L i).1 : Int) := by rw [fr.ct (by decide)]; exact x1
      have y2 : pm_ct N 79 i = ((ndA L i).2.1 : Int) := by rw [fr.ct (by decide)]; exact x2
      by_cases h0 : (ndA L i).1 = 0
      · have y1' : pm_ct N 78 i = 0 := by rw [y1, h0]; rfl
        refine g_iload_n lk_99_50 rfl ?_
        refine g_aload_n lk_99_51 rfl ?_
        refine g_getfield lk_99_52 rfl (lay.on (by decide) rfl) (v := ((77 : Nat) : Int)) (lay.rf rfl) ?_
        refine m_getfield (u := []) (M := N) lk_99_55 rfl (lay.on (by decide) rfl) (v := (l : Int)) hct ?_
        refine g_icmp (t := 123) lk_99_58 rfl (by first | (unfold pm_inI; omega) | exact pm_and_in _ _ | exact pm_shr_in _ _ | exact pm_or_in _ _ | exact pm_xor_in _ _ | exact pm_shl_in _ _ | exact pm_cmp_in _ _ | exact pm_b8_in _ | (unfold pm_inI; split <;> omega)) (by first | (unfold pm_inI; omega) | exact pm_and_in _ _ | exact pm_shr_in _ _ | exact pm_or_in _ _ | exact pm_xor_in _ _ | exact pm_shl_in _ _ | exact pm_cmp_in _ _ | exact pm_b8_in _ | (unfold pm_inI; split <;> omega)) (fun h1 => ?_) (fun h1 => ?_)
        · replace h1 : (l : Int) ≤ (i : Int) := h1
          omega
        · replace h1 : ¬ ((l : Int) ≤ (i : Int)) := h1
          refine g_aload_n lk_99_61 rfl ?_
          refine g_getfield lk_99_62 rfl (lay.on (by decide) rfl) (v := ((77 : Nat) : Int)) (lay.rf rfl) ?_
          refine g_getfield lk_99_65 rfl (lay.on (by decide) rfl) (v := ((78 : Nat) : Int)) (lay.rf rfl) ?_
          refine g_iload_n lk_99_68 rfl ?_
          refine m_iaload (u := []) (M := N) lk_99_69 (lay.ay (by decide) rfl) (by omega) (j := i) (by omega) (v := 0) y1' ?_
          refine g_if (t := 117) lk_99_70 rfl (by first | (unfold pm_inI; omega) | exact pm_and_in _ _ | exact pm_shr_in _ _ | exact pm_or_in _ _ | exact pm_xor_in _ _ | exact pm_shl_in _ _ | exact pm_cmp_in _ _ | exact pm_b8_in _ | (unfold pm_inI; split <;> omega)) (fun _ => ?_) (fun h => absurd (show (0 : Int) = (0 : Int) by omega) h)
          refine g_iinc (ls' := [(2, ((76 : Nat) : Int)), (2, ((24 : Nat) : Int)), (0, ((i : Int) + 1))]) lk_99_117 rfl rfl rfl ?_
          refine g_goto (t := 50) lk_99_120 rfl ?_
          exact ih (i + 1) N (by omega) lay fr (ha.leaf hp h0)
      obtain ⟨a1, a2, _, a4⟩ := hD.2.2.2 i hk
      obtain ⟨g1, g2, g3, g4, _, _⟩ := a4 h0
      obtain ⟨q, hq⟩ : ∃ q, q = (ndA L i).2.2.toNat := ⟨_, rfl⟩
      have y3 : pm_ct N 80 i = (q : Int) := by rw [fr.ct (by decide), x3]; omega
      have q1 : i + 1 < q := by omega
      have q2 : q < l := by omega
      obtain ⟨b1, b2, _, _, _, b6⟩ := CM_bd hT hD hp _ _ (Nat.lt_succ_self _) hk
      have r6 := lt_64_of hT.1.2 b1
      have c6 := lt_64_of hT.2.1.2 b2
      have ra := ha.at hp hk
      have st := fun {K1 K2 : pm_M} (u1 : U6 N K1 76 (i + 1) _) (u2 : U6 K1 K2 76 q _) => ha.stp hD hp hk h0 hq u1 u2
      obtain ⟨e, he⟩ : ∃ e, e = CM T L p i := ⟨_, rfl⟩
      obtain ⟨s, hs⟩ : ∃ s, s = (ndA L i).2.1 := ⟨_, rfl⟩
      obtain ⟨x, hx⟩ : ∃ x, x = (ndA L i).1 := ⟨_, rfl⟩
      rw [← he] at ra r6 c6 st b6
      rw [← hs] at y2 a2 st
      rw [← hx] at y1 a1 h0 st
      have x12 : x = 1 ∨ x = 2 := by omega
      have z1 : ∀ a : Nat, a < 64 → pm_and (a : Int) (s : Int) = ((ctS true a s : Nat) : Int) := fun a ha => pm_and_n (by omega) (by omega)
      have z2 : ∀ a : Nat, a < 64 → pm_and (a : Int) (pm_xor (s : Int) (-1)) = ((ctS false a s : Nat) : Int) := fun a ha => pm_nand ha a2
      have tb := hM0.fr fr (by decide) (by decide)
      have hd1 := c_Told_handDown2 (d := d) (mc := 0) (ms := 0) (q := i + 1) lay hT tb hct l31 (Nat.lt_succ_self _) (by omega) y1 x12 z1 ra r6 c6 b6
      have hd2 := fun {K1 : pm_M} (l1 : Lay K1) (f1 : Fr [81, 82, 83, 84, 85, 86] N K1) (u1 : U6 N K1 76 (i + 1) (dStp T x s true e)) => c_Told_handDown2 (d := d) (mc := 0) (ms := 0) (k := i) (q := q) l1 hT (tb.fr f1 (by decide) (by decide)) (by rw [f1.ct (by decide)]; exact hct) l31 (by omega) q2 (by rw [f1.ct (by decide)]; exact y1) x12 z2 (ra.ne u1 (by omega)) r6 c6 b6
      have fd := fun N' => ih (i + 1) N' (by omega)
      clear ih a4
      refine g_iload_n lk_99_50 rfl ?_
      refine g_aload_n lk_99_51 rfl ?_
      refine g_getfield lk_99_52 rfl (lay.on (by decide) rfl) (v := ((77 : Nat) : Int)) (lay.rf rfl) ?_
      refine m_getfield (u := []) (M := N) lk_99_55 rfl (lay.on (by decide) rfl) (v := (l : Int)) hct ?_
      refine g_icmp (t := 123) lk_99_58 rfl (by first | (unfold pm_inI; omega) | exact pm_and_in _ _ | exact pm_shr_in _ _ | exact pm_or_in _ _ | exact pm_xor_in _ _ | exact pm_shl_in _ _ | exact pm_cmp_in _ _ | exact pm_b8_in _ | (unfold pm_inI; split <;> omega)) (by first | (unfold pm_inI; omega) | exact pm_and_in _ _ | exact pm_shr_in _ _ | exact pm_or_in _ _ | exact pm_xor_in _ _ | exact pm_shl_in _ _ | exact pm_cmp_in _ _ | exact pm_b8_in _ | (unfold pm_inI; split <;> omega)) (fun h1 => ?_) (fun h1 => ?_)
      · replace h1 : (l : Int) ≤ (i : Int) := h1
        omega
      · replace h1 : ¬ ((l : Int) ≤ (i : Int)) := h1
        refine g_aload_n lk_99_61 rfl ?_
        refine g_getfield lk_99_62 rfl (lay.on (by decide) rfl) (v := ((77 : Nat) : Int)) (lay.rf rfl) ?_
        refine g_getfield lk_99_65 rfl (lay.on (by decide) rfl) (v := ((78 : Nat) : Int)) (lay.rf rfl) ?_
        refine g_iload_n lk_99_68 rfl ?_
        refine m_iaload (u := []) (M := N) lk_99_69 (lay.ay (by decide) rfl) (by omega) (j := i) (by omega) (v := (x : Int)) y1 ?_
        refine g_if (t := 117) lk_99_70 rfl (by first | (unfold pm_inI; omega) | exact pm_and_in _ _ | exact pm_shr_in _ _ | exact pm_or_in _ _ | exact pm_xor_in _ _ | exact pm_shl_in _ _ | exact pm_cmp_in _ _ | exact pm_b8_in _ | (unfold pm_inI; split <;> omega)) (fun h2 => ?_) (fun h2 => ?_)
        · replace h2 : (x : Int) = 0 := h2
          refine g_iinc (ls' := [(2, ((76 : Nat) : Int)), (2, ((24 : Nat) : Int)), (0, ((i : Int) + 1))]) lk_99_117 rfl rfl rfl ?_
          refine g_goto (t := 50) lk_99_120 rfl ?_
          omega
        · replace h2 : ¬ ((x : Int) = 0) := h2
          refine g_aload_n lk_99_73 rfl ?_
          refine g_iload_n lk_99_74 rfl ?_
          refine g_iload_n lk_99_75 rfl ?_
          refine g_iconst lk_99_76 ?_
          refine g_iadd lk_99_77 ?_
          refine g_aload_n lk_99_78 rfl ?_
          refine g_getfield lk_99_79 rfl (lay.on (by decide) rfl) (v := ((77 : Nat) : Int)) (lay.rf rfl) ?_
          refine g_getfield lk_99_82 rfl (lay.on (by decide) rfl) (v := ((79 : Nat) : Int)) (lay.rf rfl) ?_
          refine g_iload_n lk_99_85 rfl ?_
          refine m_iaload (u := []) (M := N) lk_99_86 (lay.ay (by decide) rfl) (by omega) (j := i) (by omega) (v := (s : Int)) y2 ?_
          refine g_aload_n lk_99_87 rfl ?_
          refine g_virtual (p := 76) (Qc := _) lk_99_88 rfl (Nat.le_of_ble_eq_true rfl) rfl rfl (lay.on (by decide) rfl) (Nat.le_of_ble_eq_true rfl) (Nat.le_of_ble_eq_true rfl) (Nat.zero_le _) (Nat.zero_le _) (hd1) ?_
          rintro _ K1 ⟨rfl, lay1, f1, u1⟩
          have k3 : pm_ct K1 80 i = (q : Int) := (by rw [f1.ct (by decide)]; exact y3)
          have k2 : pm_ct K1 79 i = (s : Int) := (by rw [f1.ct (by decide)]; exact y2)
          show Wp _ 99 91 [(2, ((76 : Nat) : Int)), (2, ((24 : Nat) : Int)), (0, (i : Int))] [] K1 _ _ _
          refine g_aload_n lk_99_91 rfl ?_
          refine g_iload_n lk_99_92 rfl ?_
          refine g_aload_n lk_99_93 rfl ?_
          refine g_getfield lk_99_94 rfl (lay1.on (by decide) rfl) (v := ((77 : Nat) : Int)) (lay1.rf rfl) ?_
          refine g_getfield lk_99_97 rfl (lay1.on (by decide) rfl) (v := ((80 : Nat) : Int)) (lay1.rf rfl) ?_
          refine g_iload_n lk_99_100 rfl ?_
          refine m_iaload (u := []) (M := K1) lk_99_101 (lay1.ay (by decide) rfl) (by omega) (j := i) (by omega) (v := (q : Int)) k3 ?_
          refine g_aload_n lk_99_102 rfl ?_
          refine g_getfield lk_99_103 rfl (lay1.on (by decide) rfl) (v := ((77 : Nat) : Int)) (lay1.rf rfl) ?_
          refine g_getfield lk_99_106 rfl (lay1.on (by decide) rfl) (v := ((79 : Nat) : Int)) (lay1.rf rfl) ?_
          refine g_iload_n lk_99_109 rfl ?_
          refine m_iaload (u := []) (M := K1) lk_99_110 (lay1.ay (by decide) rfl) (by omega) (j := i) (by omega) (v := (s : Int)) k2 ?_
          refine g_iconst lk_99_111 ?_
          refine g_ixor lk_99_112 ?_
          refine g_aload_n lk_99_113 rfl ?_
          refine g_virtual (p := 76) (Qc := _) lk_99_114 rfl (Nat.le_of_ble_eq_true rfl) rfl rfl (lay1.on (by decide) rfl) (Nat.le_of_ble_eq_true rfl) (Nat.le_of_ble_eq_true rfl) (Nat.zero_le _) (Nat.zero_le _) (hd2 lay1 f1 u1) ?_
          rintro _ K2 ⟨rfl, lay2, f2, u2⟩
          show Wp _ 99 117 [(2, ((76 : Nat) : Int)), (2, ((24 : Nat) : Int)), (0, (i : Int))] [] K2 _ _ _
          refine g_iinc (ls' := [(2, ((76 : Nat) : Int)), (2, ((24 : Nat) : Int)), (0, ((i : Int) + 1))]) lk_99_117 rfl rfl rfl ?_
          refine g_goto (t := 50) lk_99_120 rfl ?_
          exact fd K2 lay2 ((fr.trans f1).trans f2) (st u1 u2)
  show Wp (d + 2) 99 0 [(2, ((76 : Nat) : Int)), (2, ((24 : Nat) : Int)), (9, 0)] [] M mc ms Q
  have ar := c_Table_allRows (d := d + 1) (mc := 0) (ms := 0) lay0 (Or.inr rfl) hT hM0
  have g0 : ∀ {f g : Nat → Int} {h : Dt → Nat}, f = pm_upd g 0 ((h (dBas T) : Nat) : Int) → AtC f h T L p 0 := fun hf k hk ho => by
    have k0 : k = 0 := by omega
    rw [k0, hf, pm_upd_eq, CM_0]
  refine g_aload_n lk_99_0 rfl ?_
  refine g_getfield lk_99_1 rfl (lay0.on (by decide) rfl) (v := ((81 : Nat) : Int)) (lay0.rf rfl) ?_
  refine g_iconst lk_99_4 ?_
  refine g_aload_n lk_99_5 rfl ?_
  refine g_virtual (p := 24) (Qc := _) lk_99_6 rfl (Nat.le_of_ble_eq_true rfl) rfl rfl (lay0.on (by decide) rfl) (Nat.le_of_ble_eq_true rfl) (Nat.le_of_ble_eq_true rfl) (Nat.zero_le _) (Nat.zero_le _) (ar) ?_
  rintro _ N1 ⟨rfl, hN1⟩
  rw [hN1]
  show Wp _ 99 9 [(2, ((76 : Nat) : Int)), (2, ((24 : Nat) : Int)), (9, 0)] [(0, ((2 ^ tR T - 1 : Nat) : Int)), (0, 0), (2, ((81 : Nat) : Int))] M _ _ _
  have lay2 : Lay (Mu [(81, pm_upd (pm_ct M 81) 0 ((2 ^ tR T - 1 : Nat) : Int))] M) := lay0.muA (l := []) (a := 81) (f := pm_upd (pm_ct M 81) 0 ((2 ^ tR T - 1 : Nat) : Int)) rfl rfl
  refine m_iastore (u := []) (u' := [(81, pm_upd (pm_ct M 81) 0 ((2 ^ tR T - 1 : Nat) : Int))]) (M := M) lk_99_9 (lay0.ay (by decide) rfl) (by omega) (j := 0) (by omega) rfl ?_
  refine g_aload_n lk_99_10 rfl ?_
  refine g_getfield lk_99_11 rfl (lay2.on (by decide) rfl) (v := ((82 : Nat) : Int)) (lay2.rf rfl) ?_
  refine g_iconst lk_99_14 ?_
  refine g_aload_n lk_99_15 rfl ?_
  refine g_virtual (p := 24) (Qc := _) lk_99_16 rfl (Nat.le_of_ble_eq_true rfl) rfl rfl (lay2.on (by decide) rfl) (Nat.le_of_ble_eq_true rfl) (Nat.le_of_ble_eq_true rfl) (Nat.zero_le _) (Nat.zero_le _) (c_Table_allColumns lay2 (Or.inr rfl) hT (hM0.fr (Fr.mu (S := [81]) _ _ rfl) (by decide) (by decide))) ?_
  rintro _ N3 ⟨rfl, hN3⟩
  rw [hN3]
  show Wp _ 99 19 [(2, ((76 : Nat) : Int)), (2, ((24 : Nat) : Int)), (9, 0)] [(0, ((2 ^ tC T - 1 : Nat) : Int)), (0, 0), (2, ((82 : Nat) : Int))] (Mu [(81, pm_upd (pm_ct M 81) 0 ((2 ^ tR T - 1 : Nat) : Int))] M) _ _ _
  have lay4 : Lay (Mu [(81, pm_upd (pm_ct M 81) 0 ((2 ^ tR T - 1 : Nat) : Int)), (82, pm_upd (pm_ct M 82) 0 ((2 ^ tC T - 1 : Nat) : Int))] M) := lay2.muA (l := [(81, pm_upd (pm_ct M 81) 0 ((2 ^ tR T - 1 : Nat) : Int))]) (a := 82) (f := pm_upd (pm_ct M 82) 0 ((2 ^ tC T - 1 : Nat) : Int)) rfl rfl
  refine m_iastore (u := [(81, pm_upd (pm_ct M 81) 0 ((2 ^ tR T - 1 : Nat) : Int))]) (u' := [(81, pm_upd (pm_ct M 81) 0 ((2 ^ tR T - 1 : Nat) : Int)), (82, pm_upd (pm_ct M 82) 0 ((2 ^ tC T - 1 : Nat) : Int))]) (M := M) lk_99_19 (lay2.ay (by decide) rfl) (by omega) (j := 0) (by omega) rfl ?_
  refine g_aload_n lk_99_20 rfl ?_
  refine g_getfield lk_99_21 rfl (lay4.on (by decide) rfl) (v := ((83 : Nat) : Int)) (lay4.rf rfl) ?_
  refine g_iconst lk_99_24 ?_
  refine g_iconst lk_99_25 ?_
  have lay5 : Lay (Mu [(81, pm_upd (pm_ct M 81) 0 ((2 ^ tR T - 1 : Nat) : Int)), (82, pm_upd (pm_ct M 82) 0 ((2 ^ tC T - 1 : Nat) : Int)), (83, pm_upd (pm_ct M 83) 0 0)] M) := lay4.muA (l := [(81, pm_upd (pm_ct M 81) 0 ((2 ^ tR T - 1 : Nat) : Int)), (82, pm_upd (pm_ct M 82) 0 ((2 ^ tC T - 1 : Nat) : Int))]) (a := 83) (f := pm_upd (pm_ct M 83) 0 0) rfl rfl
  refine m_iastore (u := [(81, pm_upd (pm_ct M 81) 0 ((2 ^ tR T - 1 : Nat) : Int)), (82, pm_upd (pm_ct M 82) 0 ((2 ^ tC T - 1 : Nat) : Int))]) (u' := [(81, pm_upd (pm_ct M 81) 0 ((2 ^ tR T - 1 : Nat) : Int)), (82, pm_upd (pm_ct M 82) 0 ((2 ^ tC T - 1 : Nat) : Int)), (83, pm_upd (pm_ct M 83) 0 0)]) (M := M) lk_99_26 (lay4.ay (by decide) rfl) (by omega) (j := 0) (by omega) rfl ?_
  refine g_aload_n lk_99_27 rfl ?_
  refine g_getfield lk_99_28 rfl (lay5.on (by decide) rfl) (v := ((84 : Nat) : Int)) (lay5.rf rfl) ?_
  refine g_iconst lk_99_31 ?_
  refine g_iconst lk_99_32 ?_
  have lay6 : Lay (Mu [(81, pm_upd (pm_ct M 81) 0 ((2 ^ tR T - 1 : Nat) : Int)), (82, pm_upd (pm_ct M 82) 0 ((2 ^ tC T - 1 : Nat) : Int)), (83, pm_upd (pm_ct M 83) 0 0), (84, pm_upd (pm_ct M 84) 0 0)] M) := lay5.muA (l := [(81, pm_upd (pm_ct M 81) 0 ((2 ^ tR T - 1 : Nat) : Int)), (82, pm_upd (pm_ct M 82) 0 ((2 ^ tC T - 1 : Nat) : Int)), (83, pm_upd (pm_ct M 83) 0 0)]) (a := 84) (f := pm_upd (pm_ct M 84) 0 0) rfl rfl
  refine m_iastore (u := [(81, pm_upd (pm_ct M 81) 0 ((2 ^ tR T - 1 : Nat) : Int)), (82, pm_upd (pm_ct M 82) 0 ((2 ^ tC T - 1 : Nat) : Int)), (83, pm_upd (pm_ct M 83) 0 0)]) (u' := [(81, pm_upd (pm_ct M 81) 0 ((2 ^ tR T - 1 : Nat) : Int)), (82, pm_upd (pm_ct M 82) 0 ((2 ^ tC T - 1 : Nat) : Int)), (83, pm_upd (pm_ct M 83) 0 0), (84, pm_upd (pm_ct M 84) 0 0)]) (M := M) lk_99_33 (lay5.ay (by decide) rfl) (by omega) (j := 0) (by omega) rfl ?_
  refine g_aload_n lk_99_34 rfl ?_
  refine g_getfield lk_99_35 rfl (lay6.on (by decide) rfl) (v := ((85 : Nat) : Int)) (lay6.rf rfl) ?_
  refine g_iconst lk_99_38 ?_
  refine g_iconst lk_99_39 ?_
  have lay7 : Lay (Mu [(81, pm_upd (pm_ct M 81) 0 ((2 ^ tR T - 1 : Nat) : Int)), (82, pm_upd (pm_ct M 82) 0 ((2 ^ tC T - 1 : Nat) : Int)), (83, pm_upd (pm_ct M 83) 0 0), (84, pm_upd (pm_ct M 84) 0 0), (85, pm_upd (pm_ct M 85) 0 0)] M) := lay6.muA (l := [(81, pm_upd (pm_ct M 81) 0 ((2 ^ tR T - 1 : Nat) : Int)), (82, pm_upd (pm_ct M 82) 0 ((2 ^ tC T - 1 : Nat) : Int)), (83, pm_upd (pm_ct M 83) 0 0), (84, pm_upd (pm_ct M 84) 0 0)]) (a := 85) (f := pm_upd (pm_ct M 85) 0 0) rfl rfl
  refine m_iastore (u := [(81, pm_upd (pm_ct M 81) 0 ((2 ^ tR T - 1 : Nat) : Int)), (82, pm_upd (pm_ct M 82) 0 ((2 ^ tC T - 1 : Nat) : Int)), (83, pm_upd (pm_ct M 83) 0 0), (84, pm_upd (pm_ct M 84) 0 0)]) (u' := [(81, pm_upd (pm_ct M 81) 0 ((2 ^ tR T - 1 : Nat) : Int)), (82, pm_upd (pm_ct M 82) 0 ((2 ^ tC T - 1 : Nat) : Int)), (83, pm_upd (pm_ct M 83) 0 0), (84, pm_upd (pm_ct M 84) 0 0), (85, pm_upd (pm_ct M 85) 0 0)]) (M := M) lk_99_40 (lay6.ay (by decide) rfl) (by omega) (j := 0) (by omega) rfl ?_
  refine g_aload_n lk_99_41 rfl ?_
  refine g_getfield lk_99_42 rfl (lay7.on (by decide) rfl) (v := ((86 : Nat) : Int)) (lay7.rf rfl) ?_
  refine g_iconst lk_99_45 ?_
  refine g_iconst lk_99_46 ?_
  have lay8 : Lay (Mu [(81, pm_upd (pm_ct M 81) 0 ((2 ^ tR T - 1 : Nat) : Int)), (82, pm_upd (pm_ct M 82) 0 ((2 ^ tC T - 1 : Nat) : Int)), (83, pm_upd (pm_ct M 83) 0 0), (84, pm_upd (pm_ct M 84) 0 0), (85, pm_upd (pm_ct M 85) 0 0), (86, pm_upd (pm_ct M 86) 0 0)] M) := lay7.muA (l := [(81, pm_upd (pm_ct M 81) 0 ((2 ^ tR T - 1 : Nat) : Int)), (82, pm_upd (pm_ct M 82) 0 ((2 ^ tC T - 1 : Nat) : Int)), (83, pm_upd (pm_ct M 83) 0 0), (84, pm_upd (pm_ct M 84) 0 0), (85, pm_upd (pm_ct M 85) 0 0)]) (a := 86) (f := pm_upd (pm_ct M 86) 0 0) rfl rfl
  refine m_iastore (u := [(81, pm_upd (pm_ct M 81) 0 ((2 ^ tR T - 1 : Nat) : Int)), (82, pm_upd (pm_ct M 82) 0 ((2 ^ tC T - 1 : Nat) : Int)), (83, pm_upd (pm_ct M 83) 0 0), (84, pm_upd (pm_ct M 84) 0 0), (85, pm_upd (pm_ct M 85) 0 0)]) (u' := [(81, pm_upd (pm_ct M 81) 0 ((2 ^ tR T - 1 : Nat) : Int)), (82, pm_upd (pm_ct M 82) 0 ((2 ^ tC T - 1 : Nat) : Int)), (83, pm_upd (pm_ct M 83) 0 0), (84, pm_upd (pm_ct M 84) 0 0), (85, pm_upd (pm_ct M 85) 0 0), (86, pm_upd (pm_ct M 86) 0 0)]) (M := M) lk_99_47 (lay7.ay (by decide) rfl) (by omega) (j := 0) (by omega) rfl ?_
  refine g_iconst lk_99_48 ?_
  refine g_istore_n (ls' := [(2, ((76 : Nat) : Int)), (2, ((24 : Nat) : Int)), (0, 0)]) lk_99_49 rfl rfl ?_
  refine loop l 0 _ (by omega) lay8 (Fr.mu _ _ rfl) ⟨g0 (g := pm_ct M 81) (by rw [Mu_ct]; rfl), g0 (g := pm_ct M 82) (by rw [Mu_ct]; rfl), g0 (g := pm_ct M 83) (by rw [Mu_ct]; rfl), g0 (g := pm_ct M 84) (by rw [Mu_ct]; rfl), g0 (g := pm_ct M 85) (by rw [Mu_ct]; rfl), g0 (g := pm_ct M 86) (by rw [Mu_ct]; rfl)⟩
set_option maxHeartbeats 4000000 in
theorem c_Told_handDown3 {d mc ms : Nat} {M : pm_M} (lay0 : Lay M) {T : Tab} (hT : TabOK T) (hM : TbAt M 24 T) {l x s k q : Nat} {b : Bool} {z : Int} {e : Dt} (hct : pm_ct M 88 3 = (l : Int)) (l31 : l ≤ 31) (hkq : k < q) (hql : q < l) (hx : pm_ct M 89 k = (x : Int)) (x12 : x = 1 ∨ x = 2) (hz : ∀ a : Nat, a < 64 → pm_and (a : Int) z = ((ctS b a s : Nat) : Int)) (he : R6 M 87 k e) (e1 : e.1 < 64) (e2 : e.2.1 < 64) (e6 : e.2.2.2.2.2 ≤ 2) :
    pm_E (d + 1) 100 [(2, ((87 : Nat) : Int)), (0, (k : Int)), (0, (q : Int)), (0, z), (2, ((24 : Nat) : Int))] M mc ms (fun ρ M' => ρ = none ∧ Lay M' ∧ Fr [92, 93, 94, 95, 96, 97] M M' ∧ U6 M M' 87 q (dStp T x s b e)) := by
  obtain ⟨r1, r2, r3, r4, r5, r6⟩ := he
  have z1 := hz _ e1
  have z2 := hz _ e2
  obtain ⟨_, _, m3, m4, _⟩ := id hM
  have tt : tu e.2.2.2.2.2 x = if e.2.2.2.2.2 = 0 then 0 else if e.2.2.2.2.2 = x then 0 else 1 := rfl
  obtain ⟨y, hy⟩ : ∃ y, y = e.2.2.2.2.2 := ⟨_, rfl⟩
  rw [← hy] at e6 r6 tt
  have fin : ∀ (N : pm_M) (u5 u6 u7 u8 u9 u10 : Int), N = Mu [(92, pm_upd (pm_ct M 92) q u5), (93, pm_upd (pm_ct M 93) q u6), (94, pm_upd (pm_ct M 94) q u7), (95, pm_upd (pm_ct M 95) q u8), (96, pm_upd (pm_ct M 96) q u9), (97, pm_upd (pm_ct M 97) q u10)] M → Lay N → u5 = ((dStp T x s b e).1 : Int) → u6 = ((dStp T x s b e).2.1 : Int) → u7 = ((e.2.2.1 + 1 : Nat) : Int) → u8 = ((e.2.2.2.1 + prK T x : Nat) : Int) → u9 = ((e.2.2.2.2.1 + tu e.2.2.2.2.2 x : Nat) : Int) → u10 = (x : Int) → ((none : Option pm_V) = none ∧ Lay N ∧ Fr [92, 93, 94, 95, 96, 97] M N ∧ U6 M N 87 q (dStp T x s b e)) := by
    intro N u5 u6 u7 u8 u9 u10 hN lN a1 a2 a3 a4 a5 a6
    rw [hN] at lN ⊢
    refine ⟨rfl, lN, Fr.mu _ _ rfl, ?_, ?_, ?_, ?_, ?_, ?_⟩
    · rw [Mu_ct, ← a1]; rfl
    · rw [Mu_ct, ← a2]; rfl
    · rw [Mu_ct, show ((dStp T x s b e).2.2.1 : Int) = u7 from a3.symm]; rfl
    · rw [Mu_ct, show ((dStp T x s b e).2.2.2.1 : Int) = u8 from a4.symm]; rfl
    · rw [Mu_ct, show ((dStp T x s b e).2.2.2.2.1 : Int) = u9 from a5.symm]; rfl
    · rw [Mu_ct, show ((dStp T x s b e).2.2.2.2.2 : Int) = u10 from a6.symm]; rfl
  show Wp (d + 1) 100 0 [(2, ((87 : Nat) : Int)), (0, (k : Int)), (0, (q : Int)), (0, z), (2, ((24 : Nat) : Int)), (9, 0), (9, 0)] [] M mc ms _
  rcases x12 with hx1 | hx1
  · rw [hx1] at hx tt fin ⊢
    have hx' : pm_ct M 89 k = 1 := hx
    have d1 : (dStp T 1 s b e).1 = ctS b e.1 s := rfl
    have d2 : (dStp T 1 s b e).2.1 = e.2.1 := rfl
    have p1 : prK T 1 = tA T := rfl
    rw [← hy, tt] at fin
    refine g_iload_n lk_100_0 rfl ?_
    refine g_iload_n lk_100_1 rfl ?_
    refine g_icmp (t := 16) lk_100_2 rfl (by first | (unfold pm_inI; omega) | exact pm_and_in _ _ | exact pm_shr_in _ _ | exact pm_or_in _ _ | exact pm_xor_in _ _ | exact pm_shl_in _ _ | exact pm_cmp_in _ _ | exact pm_b8_in _ | (unfold pm_inI; split <;> omega)) (by first | (unfold pm_inI; omega) | exact pm_and_in _ _ | exact pm_shr_in _ _ | exact pm_or_in _ _ | exact pm_xor_in _ _ | exact pm_shl_in _ _ | exact pm_cmp_in _ _ | exact pm_b8_in _ | (unfold pm_inI; split <;> omega)) (fun h1 => ?_) (fun h1 => ?_)
    · replace h1 : (q : Int) ≤ (k : Int) := h1
      omega
    · replace h1 : ¬ ((q : Int) ≤ (k : Int)) := h1
      refine g_iload_n lk_100_5 rfl ?_
      refine g_aload_n lk_100_6 rfl ?_
      refine g_getfield lk_100_7 rfl (lay0.on (by decide) rfl) (v := ((88 : Nat) : Int)) (lay0.rf rfl) ?_
      refine m_getfield (u := []) (M := M) lk_100_10 rfl (lay0.on (by decide) rfl) (v := (l : Int)) hct ?_
      refine g_icmp (t := 17) lk_100_13 rfl (by first | (unfold pm_inI; omega) | exact pm_and_in _ _ | exact pm_shr_in _ _ | exact pm_or_in _ _ | exact pm_xor_in _ _ | exact pm_shl_in _ _ | exact pm_cmp_in _ _ | exact pm_b8_in _ | (unfold pm_inI; split <;> omega)) (by first | (unfold pm_inI; omega) | exact pm_and_in _ _ | exact pm_shr_in _ _ | exact pm_or_in _ _ | exact pm_xor_in _ _ | exact pm_shl_in _ _ | exact pm_cmp_in _ _ | exact pm_b8_in _ | (unfold pm_inI; split <;> omega)) (fun h2 => ?_) (fun h2 => ?_)
      · replace h2 : (q : Int) < (l : Int) := h2
        refine g_aload_n lk_100_17 rfl ?_
        refine g_getfield lk_100_18 rfl (lay0.on (by decide) rfl) (v := ((88 : Nat) : Int)) (lay0.rf rfl) ?_
        refine g_getfield lk_100_21 rfl (lay0.on (by decide) rfl) (v := ((89 : Nat) : Int)) (lay0.rf rfl) ?_
        refine g_iload_n lk_100_24 rfl ?_
        refine m_iaload (u := []) (M := M) lk_100_25 (lay0.ay (by decide) rfl) (by omega) (j := k) (by omega) (v := 1) hx' ?_
        refine g_iconst lk_100_26 ?_
        refine g_icmp (t := 34) lk_100_27 rfl (by first | (unfold pm_inI; omega) | exact pm_and_in _ _ | exact pm_shr_in _ _ | exact pm_or_in _ _ | exact pm_xor_in _ _ | exact pm_shl_in _ _ | exact pm_cmp_in _ _ | exact pm_b8_in _ | (unfold pm_inI; split <;> omega)) (by first | (unfold pm_inI; omega) | exact pm_and_in _ _ | exact pm_shr_in _ _ | exact pm_or_in _ _ | exact pm_xor_in _ _ | exact pm_shl_in _ _ | exact pm_cmp_in _ _ | exact pm_b8_in _ | (unfold pm_inI; split <;> omega)) (fun h => absurd h (show ¬ (¬ (1 : Int) = (1 : Int)) by omega)) (fun _ => ?_)
        refine g_iconst lk_100_30 ?_
        refine g_goto (t := 35) lk_100_31 rfl ?_
        refine g_istore (ls' := [(2, ((87 : Nat) : Int)), (0, (k : Int)), (0, (q : Int)), (0, z), (2, ((24 : Nat) : Int)), (0, 1), (9, 0)]) lk_100_35 rfl rfl ?_
        refine g_aload_n lk_100_37 rfl ?_
        refine g_getfield lk_100_38 rfl (lay0.on (by decide) rfl) (v := ((92 : Nat) : Int)) (lay0.rf rfl) ?_
        refine g_iload_n lk_100_41 rfl ?_
        refine g_iload lk_100_42 rfl ?_
        refine g_if (t := 58) lk_100_44 rfl (by first | (unfold pm_inI; omega) | exact pm_and_in _ _ | exact pm_shr_in _ _ | exact pm_or_in _ _ | exact pm_xor_in _ _ | exact pm_shl_in _ _ | exact pm_cmp_in _ _ | exact pm_b8_in _ | (unfold pm_inI; split <;> omega)) (fun h => absurd h (show ¬ ((1 : Int) = (0 : Int)) by omega)) (fun _ => ?_)
        refine g_aload_n lk_100_47 rfl ?_
        refine g_getfield lk_100_48 rfl (lay0.on (by decide) rfl) (v := ((92 : Nat) : Int)) (lay0.rf rfl) ?_
        refine g_iload_n lk_100_51 rfl ?_
        refine m_iaload (u := []) (M := M) lk_100_52 (lay0.ay (by decide) rfl) (by omega) (j := k) (by omega) (v := (e.1 : Int)) r1 ?_
        refine g_iload_n lk_100_53 rfl ?_
        refine g_iand lk_100_54 ?_
        refine g_goto (t := 64) lk_100_55 rfl ?_
        have lay3 : Lay (Mu [(92, pm_upd (pm_ct M 92) q (pm_and (e.1 : Int) z))] M) := lay0.muA (l := []) (a := 92) (f := pm_upd (pm_ct M 92) q (pm_and (e.1 : Int) z)) rfl rfl
        refine m_iastore (u := []) (u' := [(92, pm_upd (pm_ct M 92) q (pm_and (e.1 : Int) z))]) (M := M) lk_100_64 (lay0.ay (by decide) rfl) (by omega) (j := q) (by omega) rfl ?_
        refine g_aload_n lk_100_65 rfl ?_
        refine g_getfield lk_100_66 rfl (lay3.on (by decide) rfl) (v := ((93 : Nat) : Int)) (lay3.rf rfl) ?_
        refine g_iload_n lk_100_69 rfl ?_
        refine g_iload lk_100_70 rfl ?_
        refine g_if (t := 84) lk_100_72 rfl (by first | (unfold pm_inI; omega) | exact pm_and_in _ _ | exact pm_shr_in _ _ | exact pm_or_in _ _ | exact pm_xor_in _ _ | exact pm_shl_in _ _ | exact pm_cmp_in _ _ | exact pm_b8_in _ | (unfold pm_inI; split <;> omega)) (fun h => absurd h (show ¬ ((1 : Int) = (0 : Int)) by omega)) (fun _ => ?_)
        refine g_aload_n lk_100_75 rfl ?_
        refine g_getfield lk_100_76 rfl (lay3.on (by decide) rfl) (v := ((93 : Nat) : Int)) (lay3.rf rfl) ?_
        refine g_iload_n lk_100_79 rfl ?_
        refine m_iaload (u := [(92, pm_upd (pm_ct M 92) q (pm_and (e.1 : Int) z))]) (M := M) lk_100_80 (lay3.ay (by decide) rfl) (by omega) (j := k) (by omega) (v := (e.2.1 : Int)) r2 ?_
        refine g_goto (t := 92) lk_100_81 rfl ?_
        have lay4 : Lay (Mu [(92, pm_upd (pm_ct M 92) q (pm_and (e.1 : Int) z)), (93, pm_upd (pm_ct M 93) q (e.2.1 : Int))] M) := lay3.muA (l := [(92, pm_upd (pm_ct M 92) q (pm_and (e.1 : Int) z))]) (a := 93) (f := pm_upd (pm_ct M 93) q (e.2.1 : Int)) rfl rfl
        refine m_iastore (u := [(92, pm_upd (pm_ct M 92) q (pm_and (e.1 : Int) z))]) (u' := [(92, pm_upd (pm_ct M 92) q (pm_and (e.1 : Int) z)), (93, pm_upd (pm_ct M 93) q (e.2.1 : Int))]) (M := M) lk_100_92 (lay3.ay (by decide) rfl) (by omega) (j := q) (by omega) rfl ?_
        refine g_aload_n lk_100_93 rfl ?_
        refine g_getfield lk_100_94 rfl (lay4.on (by decide) rfl) (v := ((94 : Nat) : Int)) (lay4.rf rfl) ?_
        refine g_iload_n lk_100_97 rfl ?_
        refine g_aload_n lk_100_98 rfl ?_
        refine g_getfield lk_100_99 rfl (lay4.on (by decide) rfl) (v := ((94 : Nat) : Int)) (lay4.rf rfl) ?_
        refine g_iload_n lk_100_102 rfl ?_
        refine m_iaload (u := [(92, pm_upd (pm_ct M 92) q (pm_and (e.1 : Int) z)), (93, pm_upd (pm_ct M 93) q (e.2.1 : Int))]) (M := M) lk_100_103 (lay4.ay (by decide) rfl) (by omega) (j := k) (by omega) (v := (e.2.2.1 : Int)) r3 ?_
        refine g_iconst lk_100_104 ?_
        refine g_iadd lk_100_105 ?_
        have lay5 : Lay (Mu [(92, pm_upd (pm_ct M 92) q (pm_and (e.1 : Int) z)), (93, pm_upd (pm_ct M 93) q (e.2.1 : Int)), (94, pm_upd (pm_ct M 94) q ((e.2.2.1 : Int) + 1))] M) := lay4.muA (l := [(92, pm_upd (pm_ct M 92) q (pm_and (e.1 : Int) z)), (93, pm_upd (pm_ct M 93) q (e.2.1 : Int))]) (a := 94) (f := pm_upd (pm_ct M 94) q ((e.2.2.1 : Int) + 1)) rfl rfl
        refine m_iastore (u := [(92, pm_upd (pm_ct M 92) q (pm_and (e.1 : Int) z)), (93, pm_upd (pm_ct M 93) q (e.2.1 : Int))]) (u' := [(92, pm_upd (pm_ct M 92) q (pm_and (e.1 : Int) z)), (93, pm_upd (pm_ct M 93) q (e.2.1 : Int)), (94, pm_upd (pm_ct M 94) q ((e.2.2.1 : Int) + 1))]) (M := M) lk_100_106 (lay4.ay (by decide) rfl) (by omega) (j := q) (by omega) rfl ?_
        refine g_aload_n lk_100_107 rfl ?_
        refine g_getfield lk_100_108 rfl (lay5.on (by decide) rfl) (v := ((95 : Nat) : Int)) (lay5.rf rfl) ?_
        refine g_iload_n lk_100_111 rfl ?_
        refine g_aload_n lk_100_112 rfl ?_
        refine g_getfield lk_100_113 rfl (lay5.on (by decide) rfl) (v := ((95 : Nat) : Int)) (lay5.rf rfl) ?_
        refine g_iload_n lk_100_116 rfl ?_
        refine m_iaload (u := [(92, pm_upd (pm_ct M 92) q (pm_and (e.1 : Int) z)), (93, pm_upd (pm_ct M 93) q (e.2.1 : Int)), (94, pm_upd (pm_ct M 94) q ((e.2.2.1 : Int) + 1))]) (M := M) lk_100_117 (lay5.ay (by decide) rfl) (by omega) (j := k) (by omega) (v := (e.2.2.2.1 : Int)) r4 ?_
        refine g_iload lk_100_118 rfl ?_
        refine g_if (t := 131) lk_100_120 rfl (by first | (unfold pm_inI; omega) | exact pm_and_in _ _ | exact pm_shr_in _ _ | exact pm_or_in _ _ | exact pm_xor_in _ _ | exact pm_shl_in _ _ | exact pm_cmp_in _ _ | exact pm_b8_in _ | (unfold pm_inI; split <;> omega)) (fun h => absurd h (show ¬ ((1 : Int) = (0 : Int)) by omega)) (fun _ => ?_)
        refine g_aload lk_100_123 rfl ?_
        refine m_getfield (u := [(92, pm_upd (pm_ct M 92) q (pm_and (e.1 : Int) z)), (93, pm_upd (pm_ct M 93) q (e.2.1 : Int)), (94, pm_upd (pm_ct M 94) q ((e.2.2.1 : Int) + 1))]) (M := M) lk_100_125 rfl (lay5.on (by decide) rfl) (v := (tA T : Int)) m3 ?_
        refine g_goto (t := 136) lk_100_128 rfl ?_
        refine g_iadd lk_100_136 ?_
        have lay6 : Lay (Mu [(92, pm_upd (pm_ct M 92) q (pm_and (e.1 : Int) z)), (93, pm_upd (pm_ct M 93) q (e.2.1 : Int)), (94, pm_upd (pm_ct M 94) q ((e.2.2.1 : Int) + 1)), (95, pm_upd (pm_ct M 95) q ((e.2.2.2.1 : Int) + (tA T : Int)))] M) := lay5.muA (l := [(92, pm_upd (pm_ct M 92) q (pm_and (e.1 : Int) z)), (93, pm_upd (pm_ct M 93) q (e.2.1 : Int)), (94, pm_upd (pm_ct M 94) q ((e.2.2.1 : Int) + 1))]) (a := 95) (f := pm_upd (pm_ct M 95) q ((e.2.2.2.1 : Int) + (tA T : Int))) rfl rfl
        refine m_iastore (u := [(92, pm_upd (pm_ct M 92) q (pm_and (e.1 : Int) z)), (93, pm_upd (pm_ct M 93) q (e.2.1 : Int)), (94, pm_upd (pm_ct M 94) q ((e.2.2.1 : Int) + 1))]) (u' := [(92, pm_upd (pm_ct M 92) q (pm_and (e.1 : Int) z)), (93, pm_upd (pm_ct M 93) q (e.2.1 : Int)), (94, pm_upd (pm_ct M 94) q ((e.2.2.1 : Int) + 1)), (95, pm_upd (pm_ct M 95) q ((e.2.2.2.1 : Int) + (tA T : Int)))]) (M := M) lk_100_137 (lay5.ay (by decide) rfl) (by omega) (j := q) (by omega) rfl ?_
        refine g_aload_n lk_100_138 rfl ?_
        refine g_getfield lk_100_139 rfl (lay6.on (by decide) rfl) (v := ((97 : Nat) : Int)) (lay6.rf rfl) ?_
        refine g_iload_n lk_100_142 rfl ?_
        refine m_iaload (u := [(92, pm_upd (pm_ct M 92) q (pm_and (e.1 : Int) z)), (93, pm_upd (pm_ct M 93) q (e.2.1 : Int)), (94, pm_upd (pm_ct M 94) q ((e.2.2.1 : Int) + 1)), (95, pm_upd (pm_ct M 95) q ((e.2.2.2.1 : Int) + (tA T : Int)))]) (M := M) lk_100_143 (lay6.ay (by decide) rfl) (by omega) (j := k) (by omega) (v := (y : Int)) r6 ?_
        refine g_if (t := 169) lk_100_144 rfl (by first | (unfold pm_inI; omega) | exact pm_and_in _ _ | exact pm_shr_in _ _ | exact pm_or_in _ _ | exact pm_xor_in _ _ | exact pm_shl_in _ _ | exact pm_cmp_in _ _ | exact pm_b8_in _ | (unfold pm_inI; split <;> omega)) (fun h7 => ?_) (fun h7 => ?_)
        · replace h7 : (y : Int) = 0 := h7
          refine g_iconst lk_100_169 ?_
          refine g_istore (ls' := [(2, ((87 : Nat) : Int)), (0, (k : Int)), (0, (q : Int)), (0, z), (2, ((24 : Nat) : Int)), (0, 1), (0, 0)]) lk_100_170 rfl rfl ?_
          refine g_aload_n lk_100_172 rfl ?_
          refine g_getfield lk_100_173 rfl (lay6.on (by decide) rfl) (v := ((96 : Nat) : Int)) (lay6.rf rfl) ?_
          refine g_iload_n lk_100_176 rfl ?_
          refine g_aload_n lk_100_177 rfl ?_
          refine g_getfield lk_100_178 rfl (lay6.on (by decide) rfl) (v := ((96 : Nat) : Int)) (lay6.rf rfl) ?_
          refine g_iload_n lk_100_181 rfl ?_
          refine m_iaload (u := [(92, pm_upd (pm_ct M 92) q (pm_and (e.1 : Int) z)), (93, pm_upd (pm_ct M 93) q (e.2.1 : Int)), (94, pm_upd (pm_ct M 94) q ((e.2.2.1 : Int) + 1)), (95, pm_upd (pm_ct M 95) q ((e.2.2.2.1 : Int) + (tA T : Int)))]) (M := M) lk_100_182 (lay6.ay (by decide) rfl) (by omega) (j := k) (by omega) (v := (e.2.2.2.2.1 : Int)) r5 ?_
          refine g_iload lk_100_183 rfl ?_
          refine g_if (t := 192) lk_100_185 rfl (by first | (unfold pm_inI; omega) | exact pm_and_in _ _ | exact pm_shr_in _ _ | exact pm_or_in _ _ | exact pm_xor_in _ _ | exact pm_shl_in _ _ | exact pm_cmp_in _ _ | exact pm_b8_in _ | (unfold pm_inI; split <;> omega)) (fun _ => ?_) (fun h => absurd (show (0 : Int) = (0 : Int) by omega) h)
          refine g_iconst lk_100_192 ?_
          refine g_iadd lk_100_193 ?_
          have lay8 : Lay (Mu [(92, pm_upd (pm_ct M 92) q (pm_and (e.1 : Int) z)), (93, pm_upd (pm_ct M 93) q (e.2.1 : Int)), (94, pm_upd (pm_ct M 94) q ((e.2.2.1 : Int) + 1)), (95, pm_upd (pm_ct M 95) q ((e.2.2.2.1 : Int) + (tA T : Int))), (96, pm_upd (pm_ct M 96) q ((e.2.2.2.2.1 : Int) + 0))] M) := lay6.muA (l := [(92, pm_upd (pm_ct M 92) q (pm_and (e.1 : Int) z)), (93, pm_upd (pm_ct M 93) q (e.2.1 : Int)), (94, pm_upd (pm_ct M 94) q ((e.2.2.1 : Int) + 1)), (95, pm_upd (pm_ct M 95) q ((e.2.2.2.1 : Int) + (tA T : Int)))]) (a := 96) (f := pm_upd (pm_ct M 96) q ((e.2.2.2.2.1 : Int) + 0)) rfl rfl
          refine m_iastore (u := [(92, pm_upd (pm_ct M 92) q (pm_and (e.1 : Int) z)), (93, pm_upd (pm_ct M 93) q (e.2.1 : Int)), (94, pm_upd (pm_ct M 94) q ((e.2.2.1 : Int) + 1)), (95, pm_upd (pm_ct M 95) q ((e.2.2.2.1 : Int) + (tA T : Int)))]) (u' := [(92, pm_upd (pm_ct M 92) q (pm_and (e.1 : Int) z)), (93, pm_upd (pm_ct M 93) q (e.2.1 : Int)), (94, pm_upd (pm_ct M 94) q ((e.2.2.1 : Int) + 1)), (95, pm_upd (pm_ct M 95) q ((e.2.2.2.1 : Int) + (tA T : Int))), (96, pm_upd (pm_ct M 96) q ((e.2.2.2.2.1 : Int) + 0))]) (M := M) lk_100_194 (lay6.ay (by decide) rfl) (by omega) (j := q) (by omega) rfl ?_
          refine g_aload_n lk_100_195 rfl ?_
          refine g_getfield lk_100_196 rfl (lay8.on (by decide) rfl) (v := ((97 : Nat) : Int)) (lay8.rf rfl) ?_
          refine g_iload_n lk_100_199 rfl ?_
          refine g_aload_n lk_100_200 rfl ?_
          refine g_getfield lk_100_201 rfl (lay8.on (by decide) rfl) (v := ((88 : Nat) : Int)) (lay8.rf rfl) ?_
          refine g_getfield lk_100_204 rfl (lay8.on (by decide) rfl) (v := ((89 : Nat) : Int)) (lay8.rf rfl) ?_
          refine g_iload_n lk_100_207 rfl ?_
          refine m_iaload (u := [(92, pm_upd (pm_ct M 92) q (pm_and (e.1 : Int) z)), (93, pm_upd (pm_ct M 93) q (e.2.1 : Int)), (94, pm_upd (pm_ct M 94) q ((e.2.2.1 : Int) + 1)), (95, pm_upd (pm_ct M 95) q ((e.2.2.2.1 : Int) + (tA T : Int))), (96, pm_upd (pm_ct M 96) q ((e.2.2.2.2.1 : Int) + 0))]) (M := M) lk_100_208 (lay8.ay (by decide) rfl) (by omega) (j := k) (by omega) (v := 1) hx' ?_
          have lay9 : Lay (Mu [(92, pm_upd (pm_ct M 92) q (pm_and (e.1 : Int) z)), (93, pm_upd (pm_ct M 93) q (e.2.1 : Int)), (94, pm_upd (pm_ct M 94) q ((e.2.2.1 : Int) + 1)), (95, pm_upd (pm_ct M 95) q ((e.2.2.2.1 : Int) + (tA T : Int))), (96, pm_upd (pm_ct M 96) q ((e.2.2.2.2.1 : Int) + 0)), (97, pm_upd (pm_ct M 97) q 1)] M) := lay8.muA (l := [(92, pm_upd (pm_ct M 92) q (pm_and (e.1 : Int) z)), (93, pm_upd (pm_ct M 93) q (e.2.1 : Int)), (94, pm_upd (pm_ct M 94) q ((e.2.2.1 : Int) + 1)), (95, pm_upd (pm_ct M 95) q ((e.2.2.2.1 : Int) + (tA T : Int))), (96, pm_upd (pm_ct M 96) q ((e.2.2.2.2.1 : Int) + 0))]) (a := 97) (f := pm_upd (pm_ct M 97) q 1) rfl rfl
          refine m_iastore (u := [(92, pm_upd (pm_ct M 92) q (pm_and (e.1 : Int) z)), (93, pm_upd (pm_ct M 93) q (e.2.1 : Int)), (94, pm_upd (pm_ct M 94) q ((e.2.2.1 : Int) + 1)), (95, pm_upd (pm_ct M 95) q ((e.2.2.2.1 : Int) + (tA T : Int))), (96, pm_upd (pm_ct M 96) q ((e.2.2.2.2.1 : Int) + 0))]) (u' := [(92, pm_upd (pm_ct M 92) q (pm_and (e.1 : Int) z)), (93, pm_upd (pm_ct M 93) q (e.2.1 : Int)), (94, pm_upd (pm_ct M 94) q ((e.2.2.1 : Int) + 1)), (95, pm_upd (pm_ct M 95) q ((e.2.2.2.1 : Int) + (tA T : Int))), (96, pm_upd (pm_ct M 96) q ((e.2.2.2.2.1 : Int) + 0)), (97, pm_upd (pm_ct M 97) q 1)]) (M := M) lk_100_209 (lay8.ay (by decide) rfl) (by omega) (j := q) (by omega) rfl ?_
          refine g_return lk_100_210 ?_
          exact fin _ _ _ _ _ _ _ rfl lay9 (by rw [z1, d1]) (by rw [d2]) (by omega) (by rw [p1]; omega) (by rw [if_pos (by omega)]; omega) rfl
        · replace h7 : ¬ ((y : Int) = 0) := h7
          refine g_aload_n lk_100_147 rfl ?_
          refine g_getfield lk_100_148 rfl (lay6.on (by decide) rfl) (v := ((97 : Nat) : Int)) (lay6.rf rfl) ?_
          refine g_iload_n lk_100_151 rfl ?_
          refine m_iaload (u := [(92, pm_upd (pm_ct M 92) q (pm_and (e.1 : Int) z)), (93, pm_upd (pm_ct M 93) q (e.2.1 : Int)), (94, pm_upd (pm_ct M 94) q ((e.2.2.1 : Int) + 1)), (95, pm_upd (pm_ct M 95) q ((e.2.2.2.1 : Int) + (tA T : Int)))]) (M := M) lk_100_152 (lay6.ay (by decide) rfl) (by omega) (j := k) (by omega) (v := (y : Int)) r6 ?_
          refine g_aload_n lk_100_153 rfl ?_
          refine g_getfield lk_100_154 rfl (lay6.on (by decide) rfl) (v := ((88 : Nat) : Int)) (lay6.rf rfl) ?_
          refine g_getfield lk_100_157 rfl (lay6.on (by decide) rfl) (v := ((89 : Nat) : Int)) (lay6.rf rfl) ?_
          refine g_iload_n lk_100_160 rfl ?_
          refine m_iaload (u := [(92, pm_upd (pm_ct M 92) q (pm_and (e.1 : Int) z)), (93, pm_upd (pm_ct M 93) q (e.2.1 : Int)), (94, pm_upd (pm_ct M 94) q ((e.2.2.1 : Int) + 1)), (95, pm_upd (pm_ct M 95) q ((e.2.2.2.1 : Int) + (tA T : Int)))]) (M := M) lk_100_161 (lay6.ay (by decide) rfl) (by omega) (j := k) (by omega) (v := 1) hx' ?_
          refine g_icmp (t := 169) lk_100_162 rfl (by first | (unfold pm_inI; omega) | exact pm_and_in _ _ | exact pm_shr_in _ _ | exact pm_or_in _ _ | exact pm_xor_in _ _ | exact pm_shl_in _ _ | exact pm_cmp_in _ _ | exact pm_b8_in _ | (unfold pm_inI; split <;> omega)) (by first | (unfold pm_inI; omega) | exact pm_and_in _ _ | exact pm_shr_in _ _ | exact pm_or_in _ _ | exact pm_xor_in _ _ | exact pm_shl_in _ _ | exact pm_cmp_in _ _ | exact pm_b8_in _ | (unfold pm_inI; split <;> omega)) (fun h10 => ?_) (fun h10 => ?_)
          · replace h10 : (y : Int) = 1 := h10
            refine g_iconst lk_100_169 ?_
            refine g_istore (ls' := [(2, ((87 : Nat) : Int)), (0, (k : Int)), (0, (q : Int)), (0, z), (2, ((24 : Nat) : Int)), (0, 1), (0, 0)]) lk_100_170 rfl rfl ?_
            refine g_aload_n lk_100_172 rfl ?_
            refine g_getfield lk_100_173 rfl (lay6.on (by decide) rfl) (v := ((96 : Nat) : Int)) (lay6.rf rfl) ?_
            refine g_iload_n lk_100_176 rfl ?_
            refine g_aload_n lk_100_177 rfl ?_
            refine g_getfield lk_100_178 rfl (lay6.on (by decide) rfl) (v := ((96 : Nat) : Int)) (lay6.rf rfl) ?_
            refine g_iload_n lk_100_181 rfl ?_
            refine m_iaload (u := [(92, pm_upd (pm_ct M 92) q (pm_and (e.1 : Int) z)), (93, pm_upd (pm_ct M 93) q (e.2.1 : Int)), (94, pm_upd (pm_ct M 94) q ((e.2.2.1 : Int) + 1)), (95, pm_upd (pm_ct M 95) q ((e.2.2.2.1 : Int) + (tA T : Int)))]) (M := M) lk_100_182 (lay6.ay (by decide) rfl) (by omega) (j := k) (by omega) (v := (e.2.2.2.2.1 : Int)) r5 ?_
            refine g_iload lk_100_183 rfl ?_
            refine g_if (t := 192) lk_100_185 rfl (by first | (unfold pm_inI; omega) | exact pm_and_in _ _ | exact pm_shr_in _ _ | exact pm_or_in _ _ | exact pm_xor_in _ _ | exact pm_shl_in _ _ | exact pm_cmp_in _ _ | exact pm_b8_in _ | (unfold pm_inI; split <;> omega)) (fun _ => ?_) (fun h => absurd (show (0 : Int) = (0 : Int) by omega) h)
            refine g_iconst lk_100_192 ?_
            refine g_iadd lk_100_193 ?_
            have lay11 : Lay (Mu [(92, pm_upd (pm_ct M 92) q (pm_and (e.1 : Int) z)), (93, pm_upd (pm_ct M 93) q (e.2.1 : Int)), (94, pm_upd (pm_ct M 94) q ((e.2.2.1 : Int) + 1)), (95, pm_upd (pm_ct M 95) q ((e.2.2.2.1 : Int) + (tA T : Int))), (96, pm_upd (pm_ct M 96) q ((e.2.2.2.2.1 : Int) + 0))] M) := lay6.muA (l := [(92, pm_upd (pm_ct M 92) q (pm_and (e.1 : Int) z)), (93, pm_upd (pm_ct M 93) q (e.2.1 : Int)), (94, pm_upd (pm_ct M 94) q ((e.2.2.1 : Int) + 1)), (95, pm_upd (pm_ct M 95) q ((e.2.2.2.1 : Int) + (tA T : Int)))]) (a := 96) (f := pm_upd (pm_ct M 96) q ((e.2.2.2.2.1 : Int) + 0)) rfl rfl
            refine m_iastore (u := [(92, pm_upd (pm_ct M 92) q (pm_and (e.1 : Int) z)), (93, pm_upd (pm_ct M 93) q (e.2.1 : Int)), (94, pm_upd (pm_ct M 94) q ((e.2.2.1 : Int) + 1)), (95, pm_upd (pm_ct M 95) q ((e.2.2.2.1 : Int) + (tA T : Int)))]) (u' := [(92, pm_upd (pm_ct M 92) q (pm_and (e.1 : Int) z)), (93, pm_upd (pm_ct M 93) q (e.2.1 : Int)), (94, pm_upd (pm_ct M 94) q ((e.2.2.1 : Int) + 1)), (95, pm_upd (pm_ct M 95) q ((e.2.2.2.1 : Int) + (tA T : Int))), (96, pm_upd (pm_ct M 96) q ((e.2.2.2.2.1 : Int) + 0))]) (M := M) lk_100_194 (lay6.ay (by decide) rfl) (by omega) (j := q) (by omega) rfl ?_
            refine g_aload_n lk_100_195 rfl ?_
            refine g_getfield lk_100_196 rfl (lay11.on (by decide) rfl) (v := ((97 : Nat) : Int)) (lay11.rf rfl) ?_
            refine g_iload_n lk_100_199 rfl ?_
            refine g_aload_n lk_100_200 rfl ?_
            refine g_getfield lk_100_201 rfl (lay11.on (by decide) rfl) (v := ((88 : Nat) : Int)) (lay11.rf rfl) ?_
            refine g_getfield lk_100_204 rfl (lay11.on (by decide) rfl) (v := ((89 : Nat) : Int)) (lay11.rf rfl) ?_
            refine g_iload_n lk_100_207 rfl ?_
            refine m_iaload (u := [(92, pm_upd (pm_ct M 92) q (pm_and (e.1 : Int) z)), (93, pm_upd (pm_ct M 93) q (e.2.1 : Int)), (94, pm_upd (pm_ct M 94) q ((e.2.2.1 : Int) + 1)), (95, pm_upd (pm_ct M 95) q ((e.2.2.2.1 : Int) + (tA T : Int))), (96, pm_upd (pm_ct M 96) q ((e.2.2.2.2.1 : Int) + 0))]) (M := M) lk_100_208 (lay11.ay (by decide) rfl) (by omega) (j := k) (by omega) (v := 1) hx' ?_
            have lay12 : Lay (Mu [(92, pm_upd (pm_ct M 92) q (pm_and (e.1 : Int) z)), (93, pm_upd (pm_ct M 93) q (e.2.1 : Int)), (94, pm_upd (pm_ct M 94) q ((e.2.2.1 : Int) + 1)), (95, pm_upd (pm_ct M 95) q ((e.2.2.2.1 : Int) + (tA T : Int))), (96, pm_upd (pm_ct M 96) q ((e.2.2.2.2.1 : Int) + 0)), (97, pm_upd (pm_ct M 97) q 1)] M) := lay11.muA (l := [(92, pm_upd (pm_ct M 92) q (pm_and (e.1 : Int) z)), (93, pm_upd (pm_ct M 93) q (e.2.1 : Int)), (94, pm_upd (pm_ct M 94) q ((e.2.2.1 : Int) + 1)), (95, pm_upd (pm_ct M 95) q ((e.2.2.2.1 : Int) + (tA T : Int))), (96, pm_upd (pm_ct M 96) q ((e.2.2.2.2.1 : Int) + 0))]) (a := 97) (f := pm_upd (pm_ct M 97) q 1) rfl rfl
            refine m_iastore (u := [(92, pm_upd (pm_ct M 92) q (pm_and (e.1 : Int) z)), (93, pm_upd (pm_ct M 93) q (e.2.1 : Int)), (94, pm_upd (pm_ct M 94) q ((e.2.2.1 : Int) + 1)), (95, pm_upd (pm_ct M 95) q ((e.2.2.2.1 : Int) + (tA T : Int))), (96, pm_upd (pm_ct M 96) q ((e.2.2.2.2.1 : Int) + 0))]) (u' := [(92, pm_upd (pm_ct M 92) q (pm_and (e.1 : Int) z)), (93, pm_upd (pm_ct M 93) q (e.2.1 : Int)), (94, pm_upd (pm_ct M 94) q ((e.2.2.1 : Int) + 1)), (95, pm_upd (pm_ct M 95) q ((e.2.2.2.1 : Int) + (tA T : Int))), (96, pm_upd (pm_ct M 96) q ((e.2.2.2.2.1 : Int) + 0)), (97, pm_upd (pm_ct M 97) q 1)]) (M := M) lk_100_209 (lay11.ay (by decide) rfl) (by omega) (j := q) (by omega) rfl ?_
            refine g_return lk_100_210 ?_
            exact fin _ _ _ _ _ _ _ rfl lay12 (by rw [z1, d1]) (by rw [d2]) (by omega) (by rw [p1]; omega) (by rw [if_neg (by omega), if_pos (by omega)]; omega) rfl
          · replace h10 : ¬ ((y : Int) = 1) := h10
            refine g_iconst lk_100_165 ?_
            refine g_goto (t := 170) lk_100_166 rfl ?_
            refine g_istore (ls' := [(2, ((87 : Nat) : Int)), (0, (k : Int)), (0, (q : Int)), (0, z), (2, ((24 : Nat) : Int)), (0, 1), (0, 1)]) lk_100_170 rfl rfl ?_
            refine g_aload_n lk_100_172 rfl ?_
            refine g_getfield lk_100_173 rfl (lay6.on (by decide) rfl) (v := ((96 : Nat) : Int)) (lay6.rf rfl) ?_
            refine g_iload_n lk_100_176 rfl ?_
            refine g_aload_n lk_100_177 rfl ?_
            refine g_getfield lk_100_178 rfl (lay6.on (by decide) rfl) (v := ((96 : Nat) : Int)) (lay6.rf rfl) ?_
            refine g_iload_n lk_100_181 rfl ?_
            refine m_iaload (u := [(92, pm_upd (pm_ct M 92) q (pm_and (e.1 : Int) z)), (93, pm_upd (pm_ct M 93) q (e.2.1 : Int)), (94, pm_upd (pm_ct M 94) q ((e.2.2.1 : Int) + 1)), (95, pm_upd (pm_ct M 95) q ((e.2.2.2.1 : Int) + (tA T : Int)))]) (M := M) lk_100_182 (lay6.ay (by decide) rfl) (by omega) (j := k) (by omega) (v := (e.2.2.2.2.1 : Int)) r5 ?_
            refine g_iload lk_100_183 rfl ?_
            refine g_if (t := 192) lk_100_185 rfl (by first | (unfold pm_inI; omega) | exact pm_and_in _ _ | exact pm_shr_in _ _ | exact pm_or_in _ _ | exact pm_xor_in _ _ | exact pm_shl_in _ _ | exact pm_cmp_in _ _ | exact pm_b8_in _ | (unfold pm_inI; split <;> omega)) (fun h => absurd h (show ¬ ((1 : Int) = (0 : Int)) by omega)) (fun _ => ?_)
            refine g_iconst lk_100_188 ?_
            refine g_goto (t := 193) lk_100_189 rfl ?_
            refine g_iadd lk_100_193 ?_
            have lay13 : Lay (Mu [(92, pm_upd (pm_ct M 92) q (pm_and (e.1 : Int) z)), (93, pm_upd (pm_ct M 93) q (e.2.1 : Int)), (94, pm_upd (pm_ct M 94) q ((e.2.2.1 : Int) + 1)), (95, pm_upd (pm_ct M 95) q ((e.2.2.2.1 : Int) + (tA T : Int))), (96, pm_upd (pm_ct M 96) q ((e.2.2.2.2.1 : Int) + 1))] M) := lay6.muA (l := [(92, pm_upd (pm_ct M 92) q (pm_and (e.1 : Int) z)), (93, pm_upd (pm_ct M 93) q (e.2.1 : Int)), (94, pm_upd (pm_ct M 94) q ((e.2.2.1 : Int) + 1)), (95, pm_upd (pm_ct M 95) q ((e.2.2.2.1 : Int) + (tA T : Int)))]) (a := 96) (f := pm_upd (pm_ct M 96) q ((e.2.2.2.2.1 : Int) + 1)) rfl rfl
            refine m_iastore (u := [(92, pm_upd (pm_ct M 92) q (pm_and (e.1 : Int) z)), (93, pm_upd (pm_ct M 93) q (e.2.1 : Int)), (94, pm_upd (pm_ct M 94) q ((e.2.2.1 : Int) + 1)), (95, pm_upd (pm_ct M 95) q ((e.2.2.2.1 : Int) + (tA T : Int)))]) (u' := [(92, pm_upd (pm_ct M 92) q (pm_and (e.1 : Int) z)), (93, pm_upd (pm_ct M 93) q (e.2.1 : Int)), (94, pm_upd (pm_ct M 94) q ((e.2.2.1 : Int) + 1)), (95, pm_upd (pm_ct M 95) q ((e.2.2.2.1 : Int) + (tA T : Int))), (96, pm_upd (pm_ct M 96) q ((e.2.2.2.2.1 : Int) + 1))]) (M := M) lk_100_194 (lay6.ay (by decide) rfl) (by omega) (j := q) (by omega) rfl ?_
            refine g_aload_n lk_100_195 rfl ?_
            refine g_getfield lk_100_196 rfl (lay13.on (by decide) rfl) (v := ((97 : Nat) : Int)) (lay13.rf rfl) ?_
            refine g_iload_n lk_100_199 rfl ?_
            refine g_aload_n lk_100_200 rfl ?_
            refine g_getfield lk_100_201 rfl (lay13.on (by decide) rfl) (v := ((88 : Nat) : Int)) (lay13.rf rfl) ?_
            refine g_getfield lk_100_204 rfl (lay13.on (by decide) rfl) (v := ((89 : Nat) : Int)) (lay13.rf rfl) ?_
            refine g_iload_n lk_100_207 rfl ?_
            refine m_iaload (u := [(92, pm_upd (pm_ct M 92) q (pm_and (e.1 : Int) z)), (93, pm_upd (pm_ct M 93) q (e.2.1 : Int)), (94, pm_upd (pm_ct M 94) q ((e.2.2.1 : Int) + 1)), (95, pm_upd (pm_ct M 95) q ((e.2.2.2.1 : Int) + (tA T : Int))), (96, pm_upd (pm_ct M 96) q ((e.2.2.2.2.1 : Int) + 1))]) (M := M) lk_100_208 (lay13.ay (by decide) rfl) (by omega) (j := k) (by omega) (v := 1) hx' ?_
            have lay14 : Lay (Mu [(92, pm_upd (pm_ct M 92) q (pm_and (e.1 : Int) z)), (93, pm_upd (pm_ct M 93) q (e.2.1 : Int)), (94, pm_upd (pm_ct M 94) q ((e.2.2.1 : Int) + 1)), (95, pm_upd (pm_ct M 95) q ((e.2.2.2.1 : Int) + (tA T : Int))), (96, pm_upd (pm_ct M 96) q ((e.2.2.2.2.1 : Int) + 1)), (97, pm_upd (pm_ct M 97) q 1)] M) := lay13.muA (l := [(92, pm_upd (pm_ct M 92) q (pm_and (e.1 : Int) z)), (93, pm_upd (pm_ct M 93) q (e.2.1 : Int)), (94, pm_upd (pm_ct M 94) q ((e.2.2.1 : Int) + 1)), (95, pm_upd (pm_ct M 95) q ((e.2.2.2.1 : Int) + (tA T : Int))), (96, pm_upd (pm_ct M 96) q ((e.2.2.2.2.1 : Int) + 1))]) (a := 97) (f := pm_upd (pm_ct M 97) q 1) rfl rfl
            refine m_iastore (u := [(92, pm_upd (pm_ct M 92) q (pm_and (e.1 : Int) z)), (93, pm_upd (pm_ct M 93) q (e.2.1 : Int)), (94, pm_upd (pm_ct M 94) q ((e.2.2.1 : Int) + 1)), (95, pm_upd (pm_ct M 95) q ((e.2.2.2.1 : Int) + (tA T : Int))), (96, pm_upd (pm_ct M 96) q ((e.2.2.2.2.1 : Int) + 1))]) (u' := [(92, pm_upd (pm_ct M 92) q (pm_and (e.1 : Int) z)), (93, pm_upd (pm_ct M 93) q (e.2.1 : Int)), (94, pm_upd (pm_ct M 94) q ((e.2.2.1 : Int) + 1)), (95, pm_upd (pm_ct M 95) q ((e.2.2.2.1 : Int) + (tA T : Int))), (96, pm_upd (pm_ct M 96) q ((e.2.2.2.2.1 : Int) + 1)), (97, pm_upd (pm_ct M 97) q 1)]) (M := M) lk_100_209 (lay13.ay (by decide) rfl) (by omega) (j := q) (by omega) rfl ?_
            refine g_return lk_100_210 ?_
            exact fin _ _ _ _ _ _ _ rfl lay14 (by rw [z1, d1]) (by rw [d2]) (by omega) (by rw [p1]; omega) (by rw [if_neg (by omega), if_neg (by omega)]; omega) rfl
      · replace h2 : ¬ ((q : Int) < (l : Int)) := h2
        omega
  · rw [hx1] at hx tt fin ⊢
    have hx' : pm_ct M 89 k = 2 := hx
    have d1 : (dStp T 2 s b e).1 = e.1 := rfl
    have d2 : (dStp T 2 s b e).2.1 = ctS b e.2.1 s := rfl
    have p1 : prK T 2 = tB T := rfl
    rw [← hy, tt] at fin
    refine g_iload_n lk_100_0 rfl ?_
    refine g_iload_n lk_100_1 rfl ?_
    refine g_icmp (t := 16) lk_100_2 rfl (by first | (unfold pm_inI; omega) | exact pm_and_in _ _ | exact pm_shr_in _ _ | exact pm_or_in _ _ | exact pm_xor_in _ _ | exact pm_shl_in _ _ | exact pm_cmp_in _ _ | exact pm_b8_in _ | (unfold pm_inI; split <;> omega)) (by first | (unfold pm_inI; omega) | exact pm_and_in _ _ | exact pm_shr_in _ _ | exact pm_or_in _ _ | exact pm_xor_in _ _ | exact pm_shl_in _ _ | exact pm_cmp_in _ _ | exact pm_b8_in _ | (unfold pm_inI; split <;> omega)) (fun h1 => ?_) (fun h1 => ?_)
    · replace h1 : (q : Int) ≤ (k : Int) := h1
      omega
    · replace h1 : ¬ ((q : Int) ≤ (k : Int)) := h1
      refine g_iload_n lk_100_5 rfl ?_
      refine g_aload_n lk_100_6 rfl ?_
      refine g_getfield lk_100_7 rfl (lay0.on (by decide) rfl) (v := ((88 : Nat) : Int)) (lay0.rf rfl) ?_
      refine m_getfield (u := []) (M := M) lk_100_10 rfl (lay0.on (by decide) rfl) (v := (l : Int)) hct ?_
      refine g_icmp (t := 17) lk_100_13 rfl (by first | (unfold pm_inI; omega) | exact pm_and_in _ _ | exact pm_shr_in _ _ | exact pm_or_in _ _ | exact pm_xor_in _ _ | exact pm_shl_in _ _ | exact pm_cmp_in _ _ | exact pm_b8_in _ | (unfold pm_inI; split <;> omega)) (by first | (unfold pm_inI; omega) | exact pm_and_in _ _ | exact pm_shr_in _ _ | exact pm_or_in _ _ | exact pm_xor_in _ _ | exact pm_shl_in _ _ | exact pm_cmp_in _ _ | exact pm_b8_in _ | (unfold pm_inI; split <;> omega)) (fun h2 => ?_) (fun h2 => ?_)
      · replace h2 : (q : Int) < (l : Int) := h2
        refine g_aload_n lk_100_17 rfl ?_
        refine g_getfield lk_100_18 rfl (lay0.on (by decide) rfl) (v := ((88 : Nat) : Int)) (lay0.rf rfl) ?_
        refine g_getfield lk_100_21 rfl (lay0.on (by decide) rfl) (v := ((89 : Nat) : Int)) (lay0.rf rfl) ?_
        refine g_iload_n lk_100_24 rfl ?_
        refine m_iaload (u := []) (M := M) lk_100_25 (lay0.ay (by decide) rfl) (by omega) (j := k) (by omega) (v := 2) hx' ?_
        refine g_iconst lk_100_26 ?_
        refine g_icmp (t := 34) lk_100_27 rfl (by first | (unfold pm_inI; omega) | exact pm_and_in _ _ | exact pm_shr_in _ _ | exact pm_or_in _ _ | exact pm_xor_in _ _ | exact pm_shl_in _ _ | exact pm_cmp_in _ _ | exact pm_b8_in _ | (unfold pm_inI; split <;> omega)) (by first | (unfold pm_inI; omega) | exact pm_and_in _ _ | exact pm_shr_in _ _ | exact pm_or_in _ _ | exact pm_xor_in _ _ | exact pm_shl_in _ _ | exact pm_cmp_in _ _ | exact pm_b8_in _ | (unfold pm_inI; split <;> omega)) (fun _ => ?_) (fun h => absurd (show ¬ (2 : Int) = (1 : Int) by omega) h)
        refine g_iconst lk_100_34 ?_
        refine g_istore (ls' := [(2, ((87 : Nat) : Int)), (0, (k : Int)), (0, (q : Int)), (0, z), (2, ((24 : Nat) : Int)), (0, 0), (9, 0)]) lk_100_35 rfl rfl ?_
        refine g_aload_n lk_100_37 rfl ?_
        refine g_getfield lk_100_38 rfl (lay0.on (by decide) rfl) (v := ((92 : Nat) : Int)) (lay0.rf rfl) ?_
        refine g_iload_n lk_100_41 rfl ?_
        refine g_iload lk_100_42 rfl ?_
        refine g_if (t := 58) lk_100_44 rfl (by first | (unfold pm_inI; omega) | exact pm_and_in _ _ | exact pm_shr_in _ _ | exact pm_or_in _ _ | exact pm_xor_in _ _ | exact pm_shl_in _ _ | exact pm_cmp_in _ _ | exact pm_b8_in _ | (unfold pm_inI; split <;> omega)) (fun _ => ?_) (fun h => absurd (show (0 : Int) = (0 : Int) by omega) h)
        refine g_aload_n lk_100_58 rfl ?_
        refine g_getfield lk_100_59 rfl (lay0.on (by decide) rfl) (v := ((92 : Nat) : Int)) (lay0.rf rfl) ?_
        refine g_iload_n lk_100_62 rfl ?_
        refine m_iaload (u := []) (M := M) lk_100_63 (lay0.ay (by decide) rfl) (by omega) (j := k) (by omega) (v := (e.1 : Int)) r1 ?_
        have lay3 : Lay (Mu [(92, pm_upd (pm_ct M 92) q (e.1 : Int))] M) := lay0.muA (l := []) (a := 92) (f := pm_upd (pm_ct M 92) q (e.1 : Int)) rfl rfl
        refine m_iastore (u := []) (u' := [(92, pm_upd (pm_ct M 92) q (e.1 : Int))]) (M := M) lk_100_64 (lay0.ay (by decide) rfl) (by omega) (j := q) (by omega) rfl ?_
        refine g_aload_n lk_100_65 rfl ?_
        refine g_getfield lk_100_66 rfl (lay3.on (by decide) rfl) (v := ((93 : Nat) : Int)) (lay3.rf rfl) ?_
        refine g_iload_n lk_100_69 rfl ?_
        refine g_iload lk_100_70 rfl ?_
        refine g_if (t := 84) lk_100_72 rfl (by first | (unfold pm_inI; omega) | exact pm_and_in _ _ | exact pm_shr_in _ _ | exact pm_or_in _ _ | exact pm_xor_in _ _ | exact pm_shl_in _ _ | exact pm_cmp_in _ _ | exact pm_b8_in _ | (unfold pm_inI; split <;> omega)) (fun _ => ?_) (fun h => absurd (show (0 : Int) = (0 : Int) by omega) h)
        refine g_aload_n lk_100_84 rfl ?_
        refine g_getfield lk_100_85 rfl (lay3.on (by decide) rfl) (v := ((93 : Nat) : Int)) (lay3.rf rfl) ?_
        refine g_iload_n lk_100_88 rfl ?_
        refine m_iaload (u := [(92, pm_upd (pm_ct M 92) q (e.1 : Int))]) (M := M) lk_100_89 (lay3.ay (by decide) rfl) (by omega) (j := k) (by omega) (v := (e.2.1 : Int)) r2 ?_
        refine g_iload_n lk_100_90 rfl ?_
        refine g_iand lk_100_91 ?_
        have lay4 : Lay (Mu [(92, pm_upd (pm_ct M 92) q (e.1 : Int)), (93, pm_upd (pm_ct M 93) q (pm_and (e.2.1 : Int) z))] M) := lay3.muA (l := [(92, pm_upd (pm_ct M 92) q (e.1 : Int))]) (a := 93) (f := pm_upd (pm_ct M 93) q (pm_and (e.2.1 : Int) z)) rfl rfl
        refine m_iastore (u := [(92, pm_upd (pm_ct M 92) q (e.1 : Int))]) (u' := [(92, pm_upd (pm_ct M 92) q (e.1 : Int)), (93, pm_upd (pm_ct M 93) q (pm_and (e.2.1 : Int) z))]) (M := M) lk_100_92 (lay3.ay (by decide) rfl) (by omega) (j := q) (by omega) rfl ?_
        refine g_aload_n lk_100_93 rfl ?_
        refine g_getfield lk_100_94 rfl (lay4.on (by decide) rfl) (v := ((94 : Nat) : Int)) (lay4.rf rfl) ?_
        refine g_iload_n lk_100_97 rfl ?_
        refine g_aload_n lk_100_98 rfl ?_
        refine g_getfield lk_100_99 rfl (lay4.on (by decide) rfl) (v := ((94 : Nat) : Int)) (lay4.rf rfl) ?_
        refine g_iload_n lk_100_102 rfl ?_
        refine m_iaload (u := [(92, pm_upd (pm_ct M 92) q (e.1 : Int)), (93, pm_upd (pm_ct M 93) q (pm_and (e.2.1 : Int) z))]) (M := M) lk_100_103 (lay4.ay (by decide) rfl) (by omega) (j := k) (by omega) (v := (e.2.2.1 : Int)) r3 ?_
        refine g_iconst lk_100_104 ?_
        refine g_iadd lk_100_105 ?_
        have lay5 : Lay (Mu [(92, pm_upd (pm_ct M 92) q (e.1 : Int)), (93, pm_upd (pm_ct M 93) q (pm_and (e.2.1 : Int) z)), (94, pm_upd (pm_ct M 94) q ((e.2.2.1 : Int) + 1))] M) := lay4.muA (l := [(92, pm_upd (pm_ct M 92) q (e.1 : Int)), (93, pm_upd (pm_ct M 93) q (pm_and (e.2.1 : Int) z))]) (a := 94) (f := pm_upd (pm_ct M 94) q ((e.2.2.1 : Int) + 1)) rfl rfl
        refine m_iastore (u := [(92, pm_upd (pm_ct M 92) q (e.1 : Int)), (93, pm_upd (pm_ct M 93) q (pm_and (e.2.1 : Int) z))]) (u' := [(92, pm_upd (pm_ct M 92) q (e.1 : Int)), (93, pm_upd (pm_ct M 93) q (pm_and (e.2.1 : Int) z)), (94, pm_upd (pm_ct M 94) q ((e.2.2.1 : Int) + 1))]) (M := M) lk_100_106 (lay4.ay (by decide) rfl) (by omega) (j := q) (by omega) rfl ?_
        refine g_aload_n lk_100_107 rfl ?_
        refine g_getfield lk_100_108 rfl (lay5.on (by decide) rfl) (v := ((95 : Nat) : Int)) (lay5.rf rfl) ?_
        refine g_iload_n lk_100_111 rfl ?_
        refine g_aload_n lk_100_112 rfl ?_
        refine g_getfield lk_100_113 rfl (lay5.on (by decide) rfl) (v := ((95 : Nat) : Int)) (lay5.rf rfl) ?_
        refine g_iload_n lk_100_116 rfl ?_
        refine m_iaload (u := [(92, pm_upd (pm_ct M 92) q (e.1 : Int)), (93, pm_upd (pm_ct M 93) q (pm_and (e.2.1 : Int) z)), (94, pm_upd (pm_ct M 94) q ((e.2.2.1 : Int) + 1))]) (M := M) lk_100_117 (lay5.ay (by decide) rfl) (by omega) (j := k) (by omega) (v := (e.2.2.2.1 : Int)) r4 ?_
        refine g_iload lk_100_118 rfl ?_
        refine g_if (t := 131) lk_100_120 rfl (by first | (unfold pm_inI; omega) | exact pm_and_in _ _ | exact pm_shr_in _ _ | exact pm_or_in _ _ | exact pm_xor_in _ _ | exact pm_shl_in _ _ | exact pm_cmp_in _ _ | exact pm_b8_in _ | (unfold pm_inI; split <;> omega)) (fun _ => ?_) (fun h => absurd (show (0 : Int) = (0 : Int) by omega) h)
        refine g_aload lk_100_131 rfl ?_
        refine m_getfield (u := [(92, pm_upd (pm_ct M 92) q (e.1 : Int)), (93, pm_upd (pm_ct M 93) q (pm_and (e.2.1 : Int) z)), (94, pm_upd (pm_ct M 94) q ((e.2.2.1 : Int) + 1))]) (M := M) lk_100_133 rfl (lay5.on (by decide) rfl) (v := (tB T : Int)) m4 ?_
        refine g_iadd lk_100_136 ?_
        have lay6 : Lay (Mu [(92, pm_upd (pm_ct M 92) q (e.1 : Int)), (93, pm_upd (pm_ct M 93) q (pm_and (e.2.1 : Int) z)), (94, pm_upd (pm_ct M 94) q ((e.2.2.1 : Int) + 1)), (95, pm_upd (pm_ct M 95) q ((e.2.2.2.1 : Int) + (tB T : Int)))] M) := lay5.muA (l := [(92, pm_upd (pm_ct M 92) q (e.1 : Int)), (93, pm_upd (pm_ct M 93) q (pm_and (e.2.1 : Int) z)), (94, pm_upd (pm_ct M 94) q ((e.2.2.1 : Int) + 1))]) (a := 95) (f := pm_upd (pm_ct M 95) q ((e.2.2.2.1 : Int) + (tB T : Int))) rfl rfl
        refine m_iastore (u := [(92, pm_upd (pm_ct M 92) q (e.1 : Int)), (93, pm_upd (pm_ct M 93) q (pm_and (e.2.1 : Int) z)), (94, pm_upd (pm_ct M 94) q ((e.2.2.1 : Int) + 1))]) (u' := [(92, pm_upd (pm_ct M 92) q (e.1 : Int)), (93, pm_upd (pm_ct M 93) q (pm_and (e.2.1 : Int) z)), (94, pm_upd (pm_ct M 94) q ((e.2.2.1 : Int) + 1)), (95, pm_upd (pm_ct M 95) q ((e.2.2.2.1 : Int) + (tB T : Int)))]) (M := M) lk_100_137 (lay5.ay (by decide) rfl) (by omega) (j := q) (by omega) rfl ?_
        refine g_aload_n lk_100_138 rfl ?_
        refine g_getfield lk_100_139 rfl (lay6.on (by decide) rfl) (v := ((97 : Nat) : Int)) (lay6.rf rfl) ?_
        refine g_iload_n lk_100_142 rfl ?_
        refine m_iaload (u := [(92, pm_upd (pm_ct M 92) q (e.1 : Int)), (93, pm_upd (pm_ct M 93) q (pm_and (e.2.1 : Int) z)), (94, pm_upd (pm_ct M 94) q ((e.2.2.1 : Int) + 1)), (95, pm_upd (pm_ct M 95) q ((e.2.2.2.1 : Int) + (tB T : Int)))]) (M := M) lk_100_143 (lay6.ay (by decide) rfl) (by omega) (j := k) (by omega) (v := (y : Int)) r6 ?_
        refine g_if (t := 169) lk_100_144 rfl (by first | (unfold pm_inI; omega) | exact pm_and_in _ _ | exact pm_shr_in _ _ | exact pm_or_in _ _ | exact pm_xor_in _ _ | exact pm_shl_in _ _ | exact pm_cmp_in _ _ | exact pm_b8_in _ | (unfold pm_inI; split <;> omega)) (fun h7 => ?_) (fun h7 => ?_)
        · replace h7 : (y : Int) = 0 := h7
          refine g_iconst lk_100_169 ?_
          refine g_istore (ls' := [(2, ((87 : Nat) : Int)), (0, (k : Int)), (0, (q : Int)), (0, z), (2, ((24 : Nat) : Int)), (0, 0), (0, 0)]) lk_100_170 rfl rfl ?_
          refine g_aload_n lk_100_172 rfl ?_
          refine g_getfield lk_100_173 rfl (lay6.on (by decide) rfl) (v := ((96 : Nat) : Int)) (lay6.rf rfl) ?_
          refine g_iload_n lk_100_176 rfl ?_
          refine g_aload_n lk_100_177 rfl ?_
          refine g_getfield lk_100_178 rfl (lay6.on (by decide) rfl) (v := ((96 : Nat) : Int)) (lay6.rf rfl) ?_
          refine g_iload_n lk_100_181 rfl ?_
          refine m_iaload (u := [(92, pm_upd (pm_ct M 92) q (e.1 : Int)), (93, pm_upd (pm_ct M 93) q (pm_and (e.2.1 : Int) z)), (94, pm_upd (pm_ct M 94) q ((e.2.2.1 : Int) + 1)), (95, pm_upd (pm_ct M 95) q ((e.2.2.2.1 : Int) + (tB T : Int)))]) (M := M) lk_100_182 (lay6.ay (by decide) rfl) (by omega) (j := k) (by omega) (v := (e.2.2.2.2.1 : Int)) r5 ?_
          refine g_iload lk_100_183 rfl ?_
          refine g_if (t := 192) lk_100_185 rfl (by first | (unfold pm_inI; omega) | exact pm_and_in _ _ | exact pm_shr_in _ _ | exact pm_or_in _ _ | exact pm_xor_in _ _ | exact pm_shl_in _ _ | exact pm_cmp_in _ _ | exact pm_b8_in _ | (unfold pm_inI; split <;> omega)) (fun _ => ?_) (fun h => absurd (show (0 : Int) = (0 : Int) by omega) h)
          refine g_iconst lk_100_192 ?_
          refine g_iadd lk_100_193 ?_
          have lay8 : Lay (Mu [(92, pm_upd (pm_ct M 92) q (e.1 : Int)), (93, pm_upd (pm_ct M 93) q (pm_and (e.2.1 : Int) z)), (94, pm_upd (pm_ct M 94) q ((e.2.2.1 : Int) + 1)), (95, pm_upd (pm_ct M 95) q ((e.2.2.2.1 : Int) + (tB T : Int))), (96, pm_upd (pm_ct M 96) q ((e.2.2.2.2.1 : Int) + 0))] M) := lay6.muA (l := [(92, pm_upd (pm_ct M 92) q (e.1 : Int)), (93, pm_upd (pm_ct M 93) q (pm_and (e.2.1 : Int) z)), (94, pm_upd (pm_ct M 94) q ((e.2.2.1 : Int) + 1)), (95, pm_upd (pm_ct M 95) q ((e.2.2.2.1 : Int) + (tB T : Int)))]) (a := 96) (f := pm_upd (pm_ct M 96) q ((e.2.2.2.2.1 : Int) + 0)) rfl rfl
          refine m_iastore (u := [(92, pm_upd (pm_ct M 92) q (e.1 : Int)), (93, pm_upd (pm_ct M 93) q (pm_and (e.2.1 : Int) z)), (94, pm_upd (pm_ct M 94) q ((e.2.2.1 : Int) + 1)), (95, pm_upd (pm_ct M 95) q ((e.2.2.2.1 : Int) + (tB T : Int)))]) (u' := [(92, pm_upd (pm_ct M 92) q (e.1 : Int)), (93, pm_upd (pm_ct M 93) q (pm_and (e.2.1 : Int) z)), (94, pm_upd (pm_ct M 94) q ((e.2.2.1 : Int) + 1)), (95, pm_upd (pm_ct M 95) q ((e.2.2.2.1 : Int) + (tB T : Int))), (96, pm_upd (pm_ct M 96) q ((e.2.2.2.2.1 : Int) + 0))]) (M := M) lk_100_194 (lay6.ay (by decide) rfl) (by omega) (j := q) (by omega) rfl ?_
          refine g_aload_n lk_100_195 rfl ?_
          refine g_getfield lk_100_196 rfl (lay8.on (by decide) rfl) (v := ((97 : Nat) : Int)) (lay8.rf rfl) ?_
          refine g_iload_n lk_100_199 rfl ?_
          refine g_aload_n lk_100_200 rfl ?_
          refine g_getfield lk_100_201 rfl (lay8.on (by decide) rfl) (v := ((88 : Nat) : Int)) (lay8.rf rfl) ?_
          refine g_getfield lk_100_204 rfl (lay8.on (by decide) rfl) (v := ((89 : Nat) : Int)) (lay8.rf rfl) ?_
          refine g_iload_n lk_100_207 rfl ?_
          refine m_iaload (u := [(92, pm_upd (pm_ct M 92) q (e.1 : Int)), (93, pm_upd (pm_ct M 93) q (pm_and (e.2.1 : Int) z)), (94, pm_upd (pm_ct M 94) q ((e.2.2.1 : Int) + 1)), (95, pm_upd (pm_ct M 95) q ((e.2.2.2.1 : Int) + (tB T : Int))), (96, pm_upd (pm_ct M 96) q ((e.2.2.2.2.1 : Int) + 0))]) (M := M) lk_100_208 (lay8.ay (by decide) rfl) (by omega) (j := k) (by omega) (v := 2) hx' ?_
          have lay9 : Lay (Mu [(92, pm_upd (pm_ct M 92) q (e.1 : Int)), (93, pm_upd (pm_ct M 93) q (pm_and (e.2.1 : Int) z)), (94, pm_upd (pm_ct M 94) q ((e.2.2.1 : Int) + 1)), (95, pm_upd (pm_ct M 95) q ((e.2.2.2.1 : Int) + (tB T : Int))), (96, pm_upd (pm_ct M 96) q ((e.2.2.2.2.1 : Int) + 0)), (97, pm_upd (pm_ct M 97) q 2)] M) := lay8.muA (l := [(92, pm_upd (pm_ct M 92) q (e.1 : Int)), (93, pm_upd (pm_ct M 93) q (pm_and (e.2.1 : Int) z)), (94, pm_upd (pm_ct M 94) q ((e.2.2.1 : Int) + 1)), (95, pm_upd (pm_ct M 95) q ((e.2.2.2.1 : Int) + (tB T : Int))), (96, pm_upd (pm_ct M 96) q ((e.2.2.2.2.1 : Int) + 0))]) (a := 97) (f := pm_upd (pm_ct M 97) q 2) rfl rfl
          refine m_iastore (u := [(92, pm_upd (pm_ct M 92) q (e.1 : Int)), (93, pm_upd (pm_ct M 93) q (pm_and (e.2.1 : Int) z)), (94, pm_upd (pm_ct M 94) q ((e.2.2.1 : Int) + 1)), (95, pm_upd (pm_ct M 95) q ((e.2.2.2.1 : Int) + (tB T : Int))), (96, pm_upd (pm_ct M 96) q ((e.2.2.2.2.1 : Int) + 0))]) (u' := [(92, pm_upd (pm_ct M 92) q (e.1 : Int)), (93, pm_upd (pm_ct M 93) q (pm_and (e.2.1 : Int) z)), (94, pm_upd (pm_ct M 94) q ((e.2.2.1 : Int) + 1)), (95, pm_upd (pm_ct M 95) q ((e.2.2.2.1 : Int) + (tB T : Int))), (96, pm_upd (pm_ct M 96) q ((e.2.2.2.2.1 : Int) + 0)), (97, pm_upd (pm_ct M 97) q 2)]) (M := M) lk_100_209 (lay8.ay (by decide) rfl) (by omega) (j := q) (by omega) rfl ?_
          refine g_return lk_100_210 ?_
          exact fin _ _ _ _ _ _ _ rfl lay9 (by rw [d1]) (by rw [z2, d2]) (by omega) (by rw [p1]; omega) (by rw [if_pos (by omega)]; omega) rfl
        · replace h7 : ¬ ((y : Int) = 0) := h7
          refine g_aload_n lk_100_147 rfl ?_
          refine g_getfield lk_100_148 rfl (lay6.on (by decide) rfl) (v := ((97 : Nat) : Int)) (lay6.rf rfl) ?_
          refine g_iload_n lk_100_151 rfl ?_
          refine m_iaload (u := [(92, pm_upd (pm_ct M 92) q (e.1 : Int)), (93, pm_upd (pm_ct M 93) q (pm_and (e.2.1 : Int) z)), (94, pm_upd (pm_ct M 94) q ((e.2.2.1 : Int) + 1)), (95, pm_upd (pm_ct M 95) q ((e.2.2.2.1 : Int) + (tB T : Int)))]) (M := M) lk_100_152 (lay6.ay (by decide) rfl) (by omega) (j := k) (by omega) (v := (y : Int)) r6 ?_
          refine g_aload_n lk_100_153 rfl ?_
          refine g_getfield lk_100_154 rfl (lay6.on (by decide) rfl) (v := ((88 : Nat) : Int)) (lay6.rf rfl) ?_
          refine g_getfield lk_100_157 rfl (lay6.on (by decide) rfl) (v := ((89 : Nat) : Int)) (lay6.rf rfl) ?_
          refine g_iload_n lk_100_160 rfl ?_
          refine m_iaload (u := [(92, pm_upd (pm_ct M 92) q (e.1 : Int)), (93, pm_upd (pm_ct M 93) q (pm_and (e.2.1 : Int) z)), (94, pm_upd (pm_ct M 94) q ((e.2.2.1 : Int) + 1)), (95, pm_upd (pm_ct M 95) q ((e.2.2.2.1 : Int) + (tB T : Int)))]) (M := M) lk_100_161 (lay6.ay (by decide) rfl) (by omega) (j := k) (by omega) (v := 2) hx' ?_
          refine g_icmp (t := 169) lk_100_162 rfl (by first | (unfold pm_inI; omega) | exact pm_and_in _ _ | exact pm_shr_in _ _ | exact pm_or_in _ _ | exact pm_xor_in _ _ | exact pm_shl_in _ _ | exact pm_cmp_in _ _ | exact pm_b8_in _ | (unfold pm_inI; split <;> omega)) (by first | (unfold pm_inI; omega) | exact pm_and_in _ _ | exact pm_shr_in _ _ | exact pm_or_in _ _ | exact pm_xor_in _ _ | exact pm_shl_in _ _ | exact pm_cmp_in _ _ | exact pm_b8_in _ | (unfold pm_inI; split <;> omega)) (fun h10 => ?_) (fun h10 => ?_)
          · replace h10 : (y : Int) = 2 := h10
            refine g_iconst lk_100_169 ?_
            refine g_istore (ls' := [(2, ((87 : Nat) : Int)), (0, (k : Int)), (0, (q : Int)), (0, z), (2, ((24 : Nat) : Int)), (0, 0), (0, 0)]) lk_100_170 rfl rfl ?_
            refine g_aload_n lk_100_172 rfl ?_
            refine g_getfield lk_100_173 rfl (lay6.on (by decide) rfl) (v := ((96 : Nat) : Int)) (lay6.rf rfl) ?_
            refine g_iload_n lk_100_176 rfl ?_
            refine g_aload_n lk_100_177 rfl ?_
            refine g_getfield lk_100_178 rfl (lay6.on (by decide) rfl) (v := ((96 : Nat) : Int)) (lay6.rf rfl) ?_
            refine g_iload_n lk_100_181 rfl ?_
            refine m_iaload (u := [(92, pm_upd (pm_ct M 92) q (e.1 : Int)), (93, pm_upd (pm_ct M 93) q (pm_and (e.2.1 : Int) z)), (94, pm_upd (pm_ct M 94) q ((e.2.2.1 : Int) + 1)), (95, pm_upd (pm_ct M 95) q ((e.2.2.2.1 : Int) + (tB T : Int)))]) (M := M) lk_100_182 (lay6.ay (by decide) rfl) (by omega) (j := k) (by omega) (v := (e.2.2.2.2.1 : Int)) r5 ?_
            refine g_iload lk_100_183 rfl ?_
            refine g_if (t := 192) lk_100_185 rfl (by first | (unfold pm_inI; omega) | exact pm_and_in _ _ | exact pm_shr_in _ _ | exact pm_or_in _ _ | exact pm_xor_in _ _ | exact pm_shl_in _ _ | exact pm_cmp_in _ _ | exact pm_b8_in _ | (unfold pm_inI; split <;> omega)) (fun _ => ?_) (fun h => absurd (show (0 : Int) = (0 : Int) by omega) h)
            refine g_iconst lk_100_192 ?_
            refine g_iadd lk_100_193 ?_
            have lay11 : Lay (Mu [(92, pm_upd (pm_ct M 92) q (e.1 : Int)), (93, pm_upd (pm_ct M 93) q (pm_and (e.2.1 : Int) z)), (94, pm_upd (pm_ct M 94) q ((e.2.2.1 : Int) + 1)), (95, pm_upd (pm_ct M 95) q ((e.2.2.2.1 : Int) + (tB T : Int))), (96, pm_upd (pm_ct M 96) q ((e.2.2.2.2.1 : Int) + 0))] M) := lay6.muA (l := [(92, pm_upd (pm_ct M 92) q (e.1 : Int)), (93, pm_upd (pm_ct M 93) q (pm_and (e.2.1 : Int) z)), (94, pm_upd (pm_ct M 94) q ((e.2.2.1 : Int) + 1)), (95, pm_upd (pm_ct M 95) q ((e.2.2.2.1 : Int) + (tB T : Int)))]) (a := 96) (f := pm_upd (pm_ct M 96) q ((e.2.2.2.2.1 : Int) + 0)) rfl rfl
            refine m_iastore (u := [(92, pm_upd (pm_ct M 92) q (e.1 : Int)), (93, pm_upd (pm_ct M 93) q (pm_and (e.2.1 : Int) z)), (94, pm_upd (pm_ct M 94) q ((e.2.2.1 : Int) + 1)), (95, pm_upd (pm_ct M 95) q ((e.2.2.2.1 : Int) + (tB T : Int)))]) (u' := [(92, pm_upd (pm_ct M 92) q (e.1 : Int)), (93, pm_upd (pm_ct M 93) q (pm_and (e.2.1 : Int) z)), (94, pm_upd (pm_ct M 94) q ((e.2.2.1 : Int) + 1)), (95, pm_upd (pm_ct M 95) q ((e.2.2.2.1 : Int) + (tB T : Int))), (96, pm_upd (pm_ct M 96) q ((e.2.2.2.2.1 : Int) + 0))]) (M := M) lk_100_194 (lay6.ay (by decide) rfl) (by omega) (j := q) (by omega) rfl ?_
            refine g_aload_n lk_100_195 rfl ?_
            refine g_getfield lk_100_196 rfl (lay11.on (by decide) rfl) (v := ((97 : Nat) : Int)) (lay11.rf rfl) ?_
            refine g_iload_n lk_100_199 rfl ?_
            refine g_aload_n lk_100_200 rfl ?_
            refine g_getfield lk_100_201 rfl (lay11.on (by decide) rfl) (v := ((88 : Nat) : Int)) (lay11.rf rfl) ?_
            refine g_getfield lk_100_204 rfl (lay11.on (by decide) rfl) (v := ((89 : Nat) : Int)) (lay11.rf rfl) ?_
            refine g_iload_n lk_100_207 rfl ?_
            refine m_iaload (u := [(92, pm_upd (pm_ct M 92) q (e.1 : Int)), (93, pm_upd (pm_ct M 93) q (pm_and (e.2.1 : Int) z)), (94, pm_upd (pm_ct M 94) q ((e.2.2.1 : Int) + 1)), (95, pm_upd (pm_ct M 95) q ((e.2.2.2.1 : Int) + (tB T : Int))), (96, pm_upd (pm_ct M 96) q ((e.2.2.2.2.1 : Int) + 0))]) (M := M) lk_100_208 (lay11.ay (by decide) rfl) (by omega) (j := k) (by omega) (v := 2) hx' ?_
            have lay12 : Lay (Mu [(92, pm_upd (pm_ct M 92) q (e.1 : Int)), (93, pm_upd (pm_ct M 93) q (pm_and (e.2.1 : Int) z)), (94, pm_upd (pm_ct M 94) q ((e.2.2.1 : Int) + 1)), (95, pm_upd (pm_ct M 95) q ((e.2.2.2.1 : Int) + (tB T : Int))), (96, pm_upd (pm_ct M 96) q ((e.2.2.2.2.1 : Int) + 0)), (97, pm_upd (pm_ct M 97) q 2)] M) := lay11.muA (l := [(92, pm_upd (pm_ct M 92) q (e.1 : Int)), (93, pm_upd (pm_ct M 93) q (pm_and (e.2.1 : Int) z)), (94, pm_upd (pm_ct M 94) q ((e.2.2.1 : Int) + 1)), (95, pm_upd (pm_ct M 95) q ((e.2.2.2.1 : Int) + (tB T : Int))), (96, pm_upd (pm_ct M 96) q ((e.2.2.2.2.1 : Int) + 0))]) (a := 97) (f := pm_upd (pm_ct M 97) q 2) rfl rfl
            refine m_iastore (u := [(92, pm_upd (pm_ct M 92) q (e.1 : Int)), (93, pm_upd (pm_ct M 93) q (pm_and (e.2.1 : Int) z)), (94, pm_upd (pm_ct M 94) q ((e.2.2.1 : Int) + 1)), (95, pm_upd (pm_ct M 95) q ((e.2.2.2.1 : Int) + (tB T : Int))), (96, pm_upd (pm_ct M 96) q ((e.2.2.2.2.1 : Int) + 0))]) (u' := [(92, pm_upd (pm_ct M 92) q (e.1 : Int)), (93, pm_upd (pm_ct M 93) q (pm_and (e.2.1 : Int) z)), (94, pm_upd (pm_ct M 94) q ((e.2.2.1 : Int) + 1)), (95, pm_upd (pm_ct M 95) q ((e.2.2.2.1 : Int) + (tB T : Int))), (96, pm_upd (pm_ct M 96) q ((e.2.2.2.2.1 : Int) + 0)), (97, pm_upd (pm_ct M 97) q 2)]) (M := M) lk_100_209 (lay11.ay (by decide) rfl) (by omega) (j := q) (by omega) rfl ?_
            refine g_return lk_100_210 ?_
            exact fin _ _ _ _ _ _ _ rfl lay12 (by rw [d1]) (by rw [z2, d2]) (by omega) (by rw [p1]; omega) (by rw [if_neg (by omega), if_pos (by omega)]; omega) rfl
          · replace h10 : ¬ ((y : Int) = 2) := h10
            refine g_iconst lk_100_165 ?_
            refine g_goto (t := 170) lk_100_166 rfl ?_
            refine g_istore (ls' := [(2, ((87 : Nat) : Int)), (0, (k : Int)), (0, (q : Int)), (0, z), (2, ((24 : Nat) : Int)), (0, 0), (0, 1)]) lk_100_170 rfl rfl ?_
            refine g_aload_n lk_100_172 rfl ?_
            refine g_getfield lk_100_173 rfl (lay6.on (by decide) rfl) (v := ((96 : Nat) : Int)) (lay6.rf rfl) ?_
            refine g_iload_n lk_100_176 rfl ?_
            refine g_aload_n lk_100_177 rfl ?_
            refine g_getfield lk_100_178 rfl (lay6.on (by decide) rfl) (v := ((96 : Nat) : Int)) (lay6.rf rfl) ?_
            refine g_iload_n lk_100_181 rfl ?_
            refine m_iaload (u := [(92, pm_upd (pm_ct M 92) q (e.1 : Int)), (93, pm_upd (pm_ct M 93) q (pm_and (e.2.1 : Int) z)), (94, pm_upd (pm_ct M 94) q ((e.2.2.1 : Int) + 1)), (95, pm_upd (pm_ct M 95) q ((e.2.2.2.1 : Int) + (tB T : Int)))]) (M := M) lk_100_182 (lay6.ay (by decide) rfl) (by omega) (j := k) (by omega) (v := (e.2.2.2.2.1 : Int)) r5 ?_
            refine g_iload lk_100_183 rfl ?_
            refine g_if (t := 192) lk_100_185 rfl (by first | (unfold pm_inI; omega) | exact pm_and_in _ _ | exact pm_shr_in _ _ | exact pm_or_in _ _ | exact pm_xor_in _ _ | exact pm_shl_in _ _ | exact pm_cmp_in _ _ | exact pm_b8_in _ | (unfold pm_inI; split <;> omega)) (fun h => absurd h (show ¬ ((1 : Int) = (0 : Int)) by omega)) (fun _ => ?_)
            refine g_iconst lk_100_188 ?_
            refine g_goto (t := 193) lk_100_189 rfl ?_
            refine g_iadd lk_100_193 ?_
            have lay13 : Lay (Mu [(92, pm_upd (pm_ct M 92) q (e.1 : Int)), (93, pm_upd (pm_ct M 93) q (pm_and (e.2.1 : Int) z)), (94, pm_upd (pm_ct M 94) q ((e.2.2.1 : Int) + 1)), (95, pm_upd (pm_ct M 95) q ((e.2.2.2.1 : Int) + (tB T : Int))), (96, pm_upd (pm_ct M 96) q ((e.2.2.2.2.1 : Int) + 1))] M) := lay6.muA (l := [(92, pm_upd (pm_ct M 92) q (e.1 : Int)), (93, pm_upd (pm_ct M 93) q (pm_and (e.2.1 : Int) z)), (94, pm_upd (pm_ct M 94) q ((e.2.2.1 : Int) + 1)), (95, pm_upd (pm_ct M 95) q ((e.2.2.2.1 : Int) + (tB T : Int)))]) (a := 96) (f := pm_upd (pm_ct M 96) q ((e.2.2.2.2.1 : Int) + 1)) rfl rfl
            refine m_iastore (u := [(92, pm_upd (pm_ct M 92) q (e.1 : Int)), (93, pm_upd (pm_ct M 93) q (pm_and (e.2.1 : Int) z)), (94, pm_upd (pm_ct M 94) q ((e.2.2.1 : Int) + 1)), (95, pm_upd (pm_ct M 95) q ((e.2.2.2.1 : Int) + (tB T : Int)))]) (u' := [(92, pm_upd (pm_ct M 92) q (e.1 : Int)), (93, pm_upd (pm_ct M 93) q (pm_and (e.2.1 : Int) z)), (94, pm_upd (pm_ct M 94) q ((e.2.2.1 : Int) + 1)), (95, pm_upd (pm_ct M 95) q ((e.2.2.2.1 : Int) + (tB T : Int))), (96, pm_upd (pm_ct M 96) q ((e.2.2.2.2.1 : Int) + 1))]) (M := M) lk_100_194 (lay6.ay (by decide) rfl) (by omega) (j := q) (by omega) rfl ?_
            refine g_aload_n lk_100_195 rfl ?_
            refine g_getfield lk_100_196 rfl (lay13.on (by decide) rfl) (v := ((97 : Nat) : Int)) (lay13.rf rfl) ?_
            refine g_iload_n lk_100_199 rfl ?_
            refine g_aload_n lk_100_200 rfl ?_
            refine g_getfield lk_100_201 rfl (lay13.on (by decide) rfl) (v := ((88 : Nat) : Int)) (lay13.rf rfl) ?_
            refine g_getfield lk_100_204 rfl (lay13.on (by decide) rfl) (v := ((89 : Nat) : Int)) (lay13.rf rfl) ?_
            refine g_iload_n lk_100_207 rfl ?_
            refine m_iaload (u := [(92, pm_upd (pm_ct M 92) q (e.1 : Int)), (93, pm_upd (pm_ct M 93) q (pm_and (e.2.1 : Int) z)), (94, pm_upd (pm_ct M 94) q ((e.2.2.1 : Int) + 1)), (95, pm_upd (pm_ct M 95) q ((e.2.2.2.1 : Int) + (tB T : Int))), (96, pm_upd (pm_ct M 96) q ((e.2.2.2.2.1 : Int) + 1))]) (M := M) lk_100_208 (lay13.ay (by decide) rfl) (by omega) (j := k) (by omega) (v := 2) hx' ?_
            have lay14 : Lay (Mu [(92, pm_upd (pm_ct M 92) q (e.1 : Int)), (93, pm_upd (pm_ct M 93) q (pm_and (e.2.1 : Int) z)), (94, pm_upd (pm_ct M 94) q ((e.2.2.1 : Int) + 1)), (95, pm_upd (pm_ct M 95) q ((e.2.2.2.1 : Int) + (tB T : Int))), (96, pm_upd (pm_ct M 96) q ((e.2.2.2.2.1 : Int) + 1)), (97, pm_upd (pm_ct M 97) q 2)] M) := lay13.muA (l := [(92, pm_upd (pm_ct M 92) q (e.1 : Int)), (93, pm_upd (pm_ct M 93) q (pm_and (e.2.1 : Int) z)), (94, pm_upd (pm_ct M 94) q ((e.2.2.1 : Int) + 1)), (95, pm_upd (pm_ct M 95) q ((e.2.2.2.1 : Int) + (tB T : Int))), (96, pm_upd (pm_ct M 96) q ((e.2.2.2.2.1 : Int) + 1))]) (a := 97) (f := pm_upd (pm_ct M 97) q 2) rfl rfl
            refine m_iastore (u := [(92, pm_upd (pm_ct M 92) q (e.1 : Int)), (93, pm_upd (pm_ct M 93) q (pm_and (e.2.1 : Int) z)), (94, pm_upd (pm_ct M 94) q ((e.2.2.1 : Int) + 1)), (95, pm_upd (pm_ct M 95) q ((e.2.2.2.1 : Int) + (tB T : Int))), (96, pm_upd (pm_ct M 96) q ((e.2.2.2.2.1 : Int) + 1))]) (u' := [(92, pm_upd (pm_ct M 92) q (e.1 : Int)), (93, pm_upd (pm_ct M 93) q (pm_and (e.2.1 : Int) z)), (94, pm_upd (pm_ct M 94) q ((e.2.2.1 : Int) + 1)), (95, pm_upd (pm_ct M 95) q ((e.2.2.2.1 : Int) + (tB T : Int))), (96, pm_upd (pm_ct M 96) q ((e.2.2.2.2.1 : Int) + 1)), (97, pm_upd (pm_ct M 97) q 2)]) (M := M) lk_100_209 (lay13.ay (by decide) rfl) (by omega) (j := q) (by omega) rfl ?_
            refine g_return lk_100_210 ?_
            exact fin _ _ _ _ _ _ _ rfl lay14 (by rw [d1]) (by rw [z2, d2]) (by omega) (by rw [p1]; omega) (by rw [if_neg (by omega), if_neg (by omega)]; omega) rfl
      · replace h2 : ¬ ((q : Int) < (l : Int)) := h2
        omega
set_option maxHeartbeats 4000000 in
theorem c_Told_follow3 {d mc ms : Nat} {M : pm_M} (lay0 : Lay M) {T : Tab} (hT : TabOK T) (hM0 : TbAt M 24 T) {L : List Nd} {p dp : Nat → Nat} (hD : TrD L dp) (hp : PaOK L p) (hct0 : pm_ct M 88 3 = (L.length : Int)) (hL0 : NdL M 89 90 91 L) :
    pm_E (d + 2) 99 [(2, ((87 : Nat) : Int)), (2, ((24 : Nat) : Int))] M mc ms (fun ρ M' => ρ = none ∧ Lay M' ∧ Fr [92, 93, 94, 95, 96, 97] M M' ∧ CmAt M' 87 T L p) := by
  obtain ⟨Q, hQ⟩ : ∃ Q : pm_Q, Q = (fun ρ M' => ρ = none ∧ Lay M' ∧ Fr [92, 93, 94, 95, 96, 97] M M' ∧ CmAt M' 87 T L p) := ⟨_, rfl⟩
  rw [← hQ]
  have l31 := hD.2.1
  obtain ⟨l, hl⟩ : ∃ l, l = L.length := ⟨_, rfl⟩
  rw [← hl] at hct0 l31
  have loop : ∀ (n i : Nat) (N : pm_M), i + n = l → Lay N → Fr [92, 93, 94, 95, 96, 97] M N → A6 N 87 T L p i → Wp (d + 2) 99 50 [(2, ((87 : Nat) : Int)), (2, ((24 : Nat) : Int)), (0, (i : Int))] [] N mc ms Q := by
    intro n
    induction n with
    | zero =>
      intro i N hi lay fr ha
      have hct : pm_ct N 88 3 = (l : Int) := by rw [fr.ct (by decide)]; exact hct0
      have e : i = l := by omega
      rw [e] at ha ⊢
      refine g_iload_n lk_99_50 rfl ?_
      refine g_aload_n lk_99_51 rfl ?_
      refine g_getfield lk_99_52 rfl (lay.on (by decide) rfl) (v := ((88 : Nat) : Int)) (lay.rf rfl) ?_
      refine m_getfield (u := []) (M := N) lk_99_55 rfl (lay.on (by decide) rfl) (v := (l : Int)) hct ?_
      refine g_icmp (t := 123) lk_99_58 rfl (by first | (unfold pm_inI; omega) | exact pm_and_in _ _ | exact pm_shr_in _ _ | exact pm_or_in _ _ | exact pm_xor_in _ _ | exact pm_shl_in _ _ | exact pm_cmp_in _ _ | exact pm_b8_in _ | (unfold pm_inI; split <;> omega)) (by first | (unfold pm_inI; omega) | exact pm_and_in _ _ | exact pm_shr_in _ _ | exact pm_or_in _ _ | exact pm_xor_in _ _ | exact pm_shl_in _ _ | exact pm_cmp_in _ _ | exact pm_b8_in _ | (unfold pm_inI; split <;> omega)) (fun h1 => ?_) (fun h1 => ?_)
      · replace h1 : (l : Int) ≤ (l : Int) := h1
        refine g_return lk_99_123 ?_
        rw [hQ]
        exact ⟨rfl, lay, fr, A6.cm hp (by rw [← hl]; exact ha)⟩
      · replace h1 : ¬ ((l : Int) ≤ (l : Int)) := h1
        omega
    | succ n ih =>
      intro i N hi lay fr ha
      have hct : pm_ct N 88 3 = (l : Int) := by rw [fr.ct (by decide)]; exact hct0
      have hk : i < L.length := by omega
      obtain ⟨x1, x2, x3⟩ := hL0 i _ (ndA_get hk)
      have y1 : pm_ct N 89 i = ((ndA L i).1 : Int) := by rw [fr.ct (by decide)]; exact x1
      have y2 : pm_ct N 90 i = ((ndA L i).2.1 : Int) := by rw [fr.ct (by decide)]; exact x2
      by_cases h0 : (ndA L i).1 = 0
      · have y1' : pm_ct N 89 i = 0 := by rw [y1, h0]; rfl
        refine g_iload_n lk_99_50 rfl ?_
        refine g_aload_n lk_99_51 rfl ?_
        refine g_getfield lk_99_52 rfl (lay.on (by decide) rfl) (v := ((88 : Nat) : Int)) (lay.rf rfl) ?_
        refine m_getfield (u := []) (M := N) lk_99_55 rfl (lay.on (by decide) rfl) (v := (l : Int)) hct ?_
        refine g_icmp (t := 123) lk_99_58 rfl (by first | (unfold pm_inI; omega) | exact pm_and_in _ _ | exact pm_shr_in _ _ | exact pm_or_in _ _ | exact pm_xor_in _ _ | exact pm_shl_in _ _ | exact pm_cmp_in _ _ | exact pm_b8_in _ | (unfold pm_inI; split <;> omega)) (by first | (unfold pm_inI; omega) | exact pm_and_in _ _ | exact pm_shr_in _ _ | exact pm_or_in _ _ | exact pm_xor_in _ _ | exact pm_shl_in _ _ | exact pm_cmp_in _ _ | exact pm_b8_in _ | (unfold pm_inI; split <;> omega)) (fun h1 => ?_) (fun h1 => ?_)
        · replace h1 : (l : Int) ≤ (i : Int) := h1
          omega
        · replace h1 : ¬ ((l : Int) ≤ (i : Int)) := h1
          refine g_aload_n lk_99_61 rfl ?_
          refine g_getfield lk_99_62 rfl (lay.on (by decide) rfl) (v := ((88 : Nat) : Int)) (lay.rf rfl) ?_
          refine g_getfield lk_99_65 rfl (lay.on (by decide) rfl) (v := ((89 : Nat) : Int)) (lay.rf rfl) ?_
          refine g_iload_n lk_99_68 rfl ?_
          refine m_iaload (u := []) (M := N) lk_99_69 (lay.ay (by decide) rfl) (by omega) (j := i) (by omega) (v := 0) y1' ?_
          refine g_if (t := 117) lk_99_70 rfl (by first | (unfold pm_inI; omega) | exact pm_and_in _ _ | exact pm_shr_in _ _ | exact pm_or_in _ _ | exact pm_xor_in _ _ | exact pm_shl_in _ _ | exact pm_cmp_in _ _ | exact pm_b8_in _ | (unfold pm_inI; split <;> omega)) (fun _ => ?_) (fun h => absurd (show (0 : Int) = (0 : Int) by omega) h)
          refine g_iinc (ls' := [(2, ((87 : Nat) : Int)), (2, ((24 : Nat) : Int)), (0, ((i : Int) + 1))]) lk_99_117 rfl rfl rfl ?_
          refine g_goto (t := 50) lk_99_120 rfl ?_
          exact ih (i + 1) N (by omega) lay fr (ha.leaf hp h0)
      obtain ⟨a1, a2, _, a4⟩ := hD.2.2.2 i hk
      obtain ⟨g1, g2, g3, g4, _, _⟩ := a4 h0
      obtain ⟨q, hq⟩ : ∃ q, q = (ndA L i).2.2.toNat := ⟨_, rfl⟩
      have y3 : pm_ct N 91 i = (q : Int) := by rw [fr.ct (by decide), x3]; omega
      have q1 : i + 1 < q := by omega
      have q2 : q < l := by omega
      obtain ⟨b1, b2, _, _, _, b6⟩ := CM_bd hT hD hp _ _ (Nat.lt_succ_self _) hk
      have r6 := lt_64_of hT.1.2 b1
      have c6 := lt_64_of hT.2.1.2 b2
      have ra := ha.at hp hk
      have st := fun {K1 K2 : pm_M} (u1 : U6 N K1 87 (i + 1) _) (u2 : U6 K1 K2 87 q _) => ha.stp hD hp hk h0 hq u1 u2
      obtain ⟨e, he⟩ : ∃ e, e = CM T L p i := ⟨_, rfl⟩
      obtain ⟨s, hs⟩ : ∃ s, s = (ndA L i).2.1 := ⟨_, rfl⟩
      obtain ⟨x, hx⟩ : ∃ x, x = (ndA L i).1 := ⟨_, rfl⟩
      rw [← he] at ra r6 c6 st b6
      rw [← hs] at y2 a2 st
      rw [← hx] at y1 a1 h0 st
      have x12 : x = 1 ∨ x = 2 := by omega
      have z1 : ∀ a : Nat, a < 64 → pm_and (a : Int) (s : Int) = ((ctS true a s : Nat) : Int) := fun a ha => pm_and_n (by omega) (by omega)
      have z2 : ∀ a : Nat, a < 64 → pm_and (a : Int) (pm_xor (s : Int) (-1)) = ((ctS false a s : Nat) : Int) := fun a ha => pm_nand ha a2
      have tb := hM0.fr fr (by decide) (by decide)
      have hd1 := c_Told_handDown3 (d := d) (mc := 0) (ms := 0) (q := i + 1) lay hT tb hct l31 (Nat.lt_succ_self _) (by omega) y1 x12 z1 ra r6 c6 b6
      have hd2 := fun {K1 : pm_M} (l1 : Lay K1) (f1 : Fr [92, 93, 94, 95, 96, 97] N K1) (u1 : U6 N K1 87 (i + 1) (dStp T x s true e)) => c_Told_handDown3 (d := d) (mc := 0) (ms := 0) (k := i) (q := q) l1 hT (tb.fr f1 (by decide) (by decide)) (by rw [f1.ct (by decide)]; exact hct) l31 (by omega) q2 (by rw [f1.ct (by decide)]; exact y1) x12 z2 (ra.ne u1 (by omega)) r6 c6 b6
      have fd := fun N' => ih (i + 1) N' (by omega)
      clear ih a4
      refine g_iload_n lk_99_50 rfl ?_
      refine g_aload_n lk_99_51 rfl ?_
      refine g_getfield lk_99_52 rfl (lay.on (by decide) rfl) (v := ((88 : Nat) : Int)) (lay.rf rfl) ?_
      refine m_getfield (u := []) (M := N) lk_99_55 rfl (lay.on (by decide) rfl) (v := (l : Int)) hct ?_
      refine g_icmp (t := 123) lk_99_58 rfl (by first | (unfold pm_inI; omega) | exact pm_and_in _ _ | exact pm_shr_in _ _ | exact pm_or_in _ _ | exact pm_xor_in _ _ | exact pm_shl_in _ _ | exact pm_cmp_in _ _ | exact pm_b8_in _ | (unfold pm_inI; split <;> omega)) (by first | (unfold pm_inI; omega) | exact pm_and_in _ _ | exact pm_shr_in _ _ | exact pm_or_in _ _ | exact pm_xor_in _ _ | exact pm_shl_in _ _ | exact pm_cmp_in _ _ | exact pm_b8_in _ | (unfold pm_inI; split <;> omega)) (fun h1 => ?_) (fun h1 => ?_)
      · replace h1 : (l : Int) ≤ (i : Int) := h1
        omega
      · replace h1 : ¬ ((l : Int) ≤ (i : Int)) := h1
        refine g_aload_n lk_99_61 rfl ?_
        refine g_getfield lk_99_62 rfl (lay.on (by decide) rfl) (v := ((88 : Nat) : Int)) (lay.rf rfl) ?_
        refine g_getfield lk_99_65 rfl (lay.on (by decide) rfl) (v := ((89 : Nat) : Int)) (lay.rf rfl) ?_
        refine g_iload_n lk_99_68 rfl ?_
        refine m_iaload (u := []) (M := N) lk_99_69 (lay.ay (by decide) rfl) (by omega) (j := i) (by omega) (v := (x : Int)) y1 ?_
        refine g_if (t := 117) lk_99_70 rfl (by first | (unfold pm_inI; omega) | exact pm_and_in _ _ | exact pm_shr_in _ _ | exact pm_or_in _ _ | exact pm_xor_in _ _ | exact pm_shl_in _ _ | exact pm_cmp_in _ _ | exact pm_b8_in _ | (unfold pm_inI; split <;> omega)) (fun h2 => ?_) (fun h2 => ?_)
        · replace h2 : (x : Int) = 0 := h2
          refine g_iinc (ls' := [(2, ((87 : Nat) : Int)), (2, ((24 : Nat) : Int)), (0, ((i : Int) + 1))]) lk_99_117 rfl rfl rfl ?_
          refine g_goto (t := 50) lk_99_120 rfl ?_
          omega
        · replace h2 : ¬ ((x : Int) = 0) := h2
          refine g_aload_n lk_99_73 rfl ?_
          refine g_iload_n lk_99_74 rfl ?_
          refine g_iload_n lk_99_75 rfl ?_
          refine g_iconst lk_99_76 ?_
          refine g_iadd lk_99_77 ?_
          refine g_aload_n lk_99_78 rfl ?_
          refine g_getfield lk_99_79 rfl (lay.on (by decide) rfl) (v := ((88 : Nat) : Int)) (lay.rf rfl) ?_
          refine g_getfield lk_99_82 rfl (lay.on (by decide) rfl) (v := ((90 : Nat) : Int)) (lay.rf rfl) ?_
          refine g_iload_n lk_99_85 rfl ?_
          refine m_iaload (u := []) (M := N) lk_99_86 (lay.ay (by decide) rfl) (by omega) (j := i) (by omega) (v := (s : Int)) y2 ?_
          refine g_aload_n lk_99_87 rfl ?_
          refine g_virtual (p := 87) (Qc := _) lk_99_88 rfl (Nat.le_of_ble_eq_true rfl) rfl rfl (lay.on (by decide) rfl) (Nat.le_of_ble_eq_true rfl) (Nat.le_of_ble_eq_true rfl) (Nat.zero_le _) (Nat.zero_le _) (hd1) ?_
          rintro _ K1 ⟨rfl, lay1, f1, u1⟩
          have k3 : pm_ct K1 91 i = (q : Int) := (by rw [f1.ct (by decide)]; exact y3)
          have k2 : pm_ct K1 90 i = (s : Int) := (by rw [f1.ct (by decide)]; exact y2)
          show Wp _ 99 91 [(2, ((87 : Nat) : Int)), (2, ((24 : Nat) : Int)), (0, (i : Int))] [] K1 _ _ _
          refine g_aload_n lk_99_91 rfl ?_
          refine g_iload_n lk_99_92 rfl ?_
          refine g_aload_n lk_99_93 rfl ?_
          refine g_getfield lk_99_94 rfl (lay1.on (by decide) rfl) (v := ((88 : Nat) : Int)) (lay1.rf rfl) ?_
          refine g_getfield lk_99_97 rfl (lay1.on (by decide) rfl) (v := ((91 : Nat) : Int)) (lay1.rf rfl) ?_
          refine g_iload_n lk_99_100 rfl ?_
          refine m_iaload (u := []) (M := K1) lk_99_101 (lay1.ay (by decide) rfl) (by omega) (j := i) (by omega) (v := (q : Int)) k3 ?_
          refine g_aload_n lk_99_102 rfl ?_
          refine g_getfield lk_99_103 rfl (lay1.on (by decide) rfl) (v := ((88 : Nat) : Int)) (lay1.rf rfl) ?_
          refine g_getfield lk_99_106 rfl (lay1.on (by decide) rfl) (v := ((90 : Nat) : Int)) (lay1.rf rfl) ?_
          refine g_iload_n lk_99_109 rfl ?_
          refine m_iaload (u := []) (M := K1) lk_99_110 (lay1.ay (by decide) rfl) (by omega) (j := i) (by omega) (v := (s : Int)) k2 ?_
          refine g_iconst lk_99_111 ?_
          refine g_ixor lk_99_112 ?_
          refine g_aload_n lk_99_113 rfl ?_
          refine g_virtual (p := 87) (Qc := _) lk_99_114 rfl (Nat.le_of_ble_eq_true rfl) rfl rfl (lay1.on (by decide) rfl) (Nat.le_of_ble_eq_true rfl) (Nat.le_of_ble_eq_true rfl) (Nat.zero_le _) (Nat.zero_le _) (hd2 lay1 f1 u1) ?_
          rintro _ K2 ⟨rfl, lay2, f2, u2⟩
          show Wp _ 99 117 [(2, ((87 : Nat) : Int)), (2, ((24 : Nat) : Int)), (0, (i : Int))] [] K2 _ _ _
          refine g_iinc (ls' := [(2, ((87 : Nat) : Int)), (2, ((24 : Nat) : Int)), (0, ((i : Int) + 1))]) lk_99_117 rfl rfl rfl ?_
          refine g_goto (t := 50) lk_99_120 rfl ?_
          exact fd K2 lay2 ((fr.trans f1).trans f2) (st u1 u2)
  show Wp (d + 2) 99 0 [(2, ((87 : Nat) : Int)), (2, ((24 : Nat) : Int)), (9, 0)] [] M mc ms Q
  have ar := c_Table_allRows (d := d + 1) (mc := 0) (ms := 0) lay0 (Or.inr rfl) hT hM0
  have g0 : ∀ {f g : Nat → Int} {h : Dt → Nat}, f = pm_upd g 0 ((h (dBas T) : Nat) : Int) → AtC f h T L p 0 := fun hf k hk ho => by
    have k0 : k = 0 := by omega
    rw [k0, hf, pm_upd_eq, CM_0]
  refine g_aload_n lk_99_0 rfl ?_
  refine g_getfield lk_99_1 rfl (lay0.on (by decide) rfl) (v := ((92 : Nat) : Int)) (lay0.rf rfl) ?_
  refine g_iconst lk_99_4 ?_
  refine g_aload_n lk_99_5 rfl ?_
  refine g_virtual (p := 24) (Qc := _) lk_99_6 rfl (Nat.le_of_ble_eq_true rfl) rfl rfl (lay0.on (by decide) rfl) (Nat.le_of_ble_eq_true rfl) (Nat.le_of_ble_eq_true rfl) (Nat.zero_le _) (Nat.zero_le _) (ar) ?_
  rintro _ N1 ⟨rfl, hN1⟩
  rw [hN1]
  show Wp _ 99 9 [(2, ((87 : Nat) : Int)), (2, ((24 : Nat) : Int)), (9, 0)] [(0, ((2 ^ tR T - 1 : Nat) : Int)), (0, 0), (2, ((92 : Nat) : Int))] M _ _ _
  have lay2 : Lay (Mu [(92, pm_upd (pm_ct M 92) 0 ((2 ^ tR T - 1 : Nat) : Int))] M) := lay0.muA (l := []) (a := 92) (f := pm_upd (pm_ct M 92) 0 ((2 ^ tR T - 1 : Nat) : Int)) rfl rfl
  refine m_iastore (u := []) (u' := [(92, pm_upd (pm_ct M 92) 0 ((2 ^ tR T - 1 : Nat) : Int))]) (M := M) lk_99_9 (lay0.ay (by decide) rfl) (by omega) (j := 0) (by omega) rfl ?_
  refine g_aload_n lk_99_10 rfl ?_
  refine g_getfield lk_99_11 rfl (lay2.on (by decide) rfl) (v := ((93 : Nat) : Int)) (lay2.rf rfl) ?_
  refine g_iconst lk_99_14 ?_
  refine g_aload_n lk_99_15 rfl ?_
  refine g_virtual (p := 24) (Qc := _) lk_99_16 rfl (Nat.le_of_ble_eq_true rfl) rfl rfl (lay2.on (by decide) rfl) (Nat.le_of_ble_eq_true rfl) (Nat.le_of_ble_eq_true rfl) (Nat.zero_le _) (Nat.zero_le _) (c_Table_allColumns lay2 (Or.inr rfl) hT (hM0.fr (Fr.mu (S := [92]) _ _ rfl) (by decide) (by decide))) ?_
  rintro _ N3 ⟨rfl, hN3⟩
  rw [hN3]
  show Wp _ 99 19 [(2, ((87 : Nat) : Int)), (2, ((24 : Nat) : Int)), (9, 0)] [(0, ((2 ^ tC T - 1 : Nat) : Int)), (0, 0), (2, ((93 : Nat) : Int))] (Mu [(92, pm_upd (pm_ct M 92) 0 ((2 ^ tR T - 1 : Nat) : Int))] M) _ _ _
  have lay4 : Lay (Mu [(92, pm_upd (pm_ct M 92) 0 ((2 ^ tR T - 1 : Nat) : Int)), (93, pm_upd (pm_ct M 93) 0 ((2 ^ tC T - 1 : Nat) : Int))] M) := lay2.muA (l := [(92, pm_upd (pm_ct M 92) 0 ((2 ^ tR T - 1 : Nat) : Int))]) (a := 93) (f := pm_upd (pm_ct M 93) 0 ((2 ^ tC T - 1 : Nat) : Int)) rfl rfl
  refine m_iastore (u := [(92, pm_upd (pm_ct M 92) 0 ((2 ^ tR T - 1 : Nat) : Int))]) (u' := [(92, pm_upd (pm_ct M 92) 0 ((2 ^ tR T - 1 : Nat) : Int)), (93, pm_upd (pm_ct M 93) 0 ((2 ^ tC T - 1 : Nat) : Int))]) (M := M) lk_99_19 (lay2.ay (by decide) rfl) (by omega) (j := 0) (by omega) rfl ?_
  refine g_aload_n lk_99_20 rfl ?_
  refine g_getfield lk_99_21 rfl (lay4.on (by decide) rfl) (v := ((94 : Nat) : Int)) (lay4.rf rfl) ?_
  refine g_iconst lk_99_24 ?_
  refine g_iconst lk_99_25 ?_
  have lay5 : Lay (Mu [(92, pm_upd (pm_ct M 92) 0 ((2 ^ tR T - 1 : Nat) : Int)), (93, pm_upd (pm_ct M 93) 0 ((2 ^ tC T - 1 : Nat) : Int)), (94, pm_upd (pm_ct M 94) 0 0)] M) := lay4.muA (l := [(92, pm_upd (pm_ct M 92) 0 ((2 ^ tR T - 1 : Nat) : Int)), (93, pm_upd (pm_ct M 93) 0 ((2 ^ tC T - 1 : Nat) : Int))]) (a := 94) (f := pm_upd (pm_ct M 94) 0 0) rfl rfl
  refine m_iastore (u := [(92, pm_upd (pm_ct M 92) 0 ((2 ^ tR T - 1 : Nat) : Int)), (93, pm_upd (pm_ct M 93) 0 ((2 ^ tC T - 1 : Nat) : Int))]) (u' := [(92, pm_upd (pm_ct M 92) 0 ((2 ^ tR T - 1 : Nat) : Int)), (93, pm_upd (pm_ct M 93) 0 ((2 ^ tC T - 1 : Nat) : Int)), (94, pm_upd (pm_ct M 94) 0 0)]) (M := M) lk_99_26 (lay4.ay (by decide) rfl) (by omega) (j := 0) (by omega) rfl ?_
  refine g_aload_n lk_99_27 rfl ?_
  refine g_getfield lk_99_28 rfl (lay5.on (by decide) rfl) (v := ((95 : Nat) : Int)) (lay5.rf rfl) ?_
  refine g_iconst lk_99_31 ?_
  refine g_iconst lk_99_32 ?_
  have lay6 : Lay (Mu [(92, pm_upd (pm_ct M 92) 0 ((2 ^ tR T - 1 : Nat) : Int)), (93, pm_upd (pm_ct M 93) 0 ((2 ^ tC T - 1 : Nat) : Int)), (94, pm_upd (pm_ct M 94) 0 0), (95, pm_upd (pm_ct M 95) 0 0)] M) := lay5.muA (l := [(92, pm_upd (pm_ct M 92) 0 ((2 ^ tR T - 1 : Nat) : Int)), (93, pm_upd (pm_ct M 93) 0 ((2 ^ tC T - 1 : Nat) : Int)), (94, pm_upd (pm_ct M 94) 0 0)]) (a := 95) (f := pm_upd (pm_ct M 95) 0 0) rfl rfl
  refine m_iastore (u := [(92, pm_upd (pm_ct M 92) 0 ((2 ^ tR T - 1 : Nat) : Int)), (93, pm_upd (pm_ct M 93) 0 ((2 ^ tC T - 1 : Nat) : Int)), (94, pm_upd (pm_ct M 94) 0 0)]) (u' := [(92, pm_upd (pm_ct M 92) 0 ((2 ^ tR T - 1 : Nat) : Int)), (93, pm_upd (pm_ct M 93) 0 ((2 ^ tC T - 1 : Nat) : Int)), (94, pm_upd (pm_ct M 94) 0 0), (95, pm_upd (pm_ct M 95) 0 0)]) (M := M) lk_99_33 (lay5.ay (by decide) rfl) (by omega) (j := 0) (by omega) rfl ?_
  refine g_aload_n lk_99_34 rfl ?_
  refine g_getfield lk_99_35 rfl (lay6.on (by decide) rfl) (v := ((96 : Nat) : Int)) (lay6.rf rfl) ?_
  refine g_iconst lk_99_38 ?_
  refine g_iconst lk_99_39 ?_
  have lay7 : Lay (Mu [(92, pm_upd (pm_ct M 92) 0 ((2 ^ tR T - 1 : Nat) : Int)), (93, pm_upd (pm_ct M 93) 0 ((2 ^ tC T - 1 : Nat) : Int)), (94, pm_upd (pm_ct M 94) 0 0), (95, pm_upd (pm_ct M 95) 0 0), (96, pm_upd (pm_ct M 96) 0 0)] M) := lay6.muA (l := [(92, pm_upd (pm_ct M 92) 0 ((2 ^ tR T - 1 : Nat) : Int)), (93, pm_upd (pm_ct M 93) 0 ((2 ^ tC T - 1 : Nat) : Int)), (94, pm_upd (pm_ct M 94) 0 0), (95, pm_upd (pm_ct M 95) 0 0)]) (a := 96) (f := pm_upd (pm_ct M 96) 0 0) rfl rfl
  refine m_iastore (u := [(92, pm_upd (pm_ct M 92) 0 ((2 ^ tR T - 1 : Nat) : Int)), (93, pm_upd (pm_ct M 93) 0 ((2 ^ tC T - 1 : Nat) : Int)), (94, pm_upd (pm_ct M 94) 0 0), (95, pm_upd (pm_ct M 95) 0 0)]) (u' := [(92, pm_upd (pm_ct M 92) 0 ((2 ^ tR T - 1 : Nat) : Int)), (93, pm_upd (pm_ct M 93) 0 ((2 ^ tC T - 1 : Nat) : Int)), (94, pm_upd (pm_ct M 94) 0 0), (95, pm_upd (pm_ct M 95) 0 0), (96, pm_upd (pm_ct M 96) 0 0)]) (M := M) lk_99_40 (lay6.ay (by decide) rfl) (by omega) (j := 0) (by omega) rfl ?_
  refine g_aload_n lk_99_41 rfl ?_
  refine g_getfield lk_99_42 rfl (lay7.on (by decide) rfl) (v := ((97 : Nat) : Int)) (lay7.rf rfl) ?_
  refine g_iconst lk_99_45 ?_
  refine g_iconst lk_99_46 ?_
  have lay8 : Lay (Mu [(92, pm_upd (pm_ct M 92) 0 ((2 ^ tR T - 1 : Nat) : Int)), (93, pm_upd (pm_ct M 93) 0 ((2 ^ tC T - 1 : Nat) : Int)), (94, pm_upd (pm_ct M 94) 0 0), (95, pm_upd (pm_ct M 95) 0 0), (96, pm_upd (pm_ct M 96) 0 0), (97, pm_upd (pm_ct M 97) 0 0)] M) := lay7.muA (l := [(92, pm_upd (pm_ct M 92) 0 ((2 ^ tR T - 1 : Nat) : Int)), (93, pm_upd (pm_ct M 93) 0 ((2 ^ tC T - 1 : Nat) : Int)), (94, pm_upd (pm_ct M 94) 0 0), (95, pm_upd (pm_ct M 95) 0 0), (96, pm_upd (pm_ct M 96) 0 0)]) (a := 97) (f := pm_upd (pm_ct M 97) 0 0) rfl rfl
  refine m_iastore (u := [(92, pm_upd (pm_ct M 92) 0 ((2 ^ tR T - 1 : Nat) : Int)), (93, pm_upd (pm_ct M 93) 0 ((2 ^ tC T - 1 : Nat) : Int)), (94, pm_upd (pm_ct M 94) 0 0), (95, pm_upd (pm_ct M 95) 0 0), (96, pm_upd (pm_ct M 96) 0 0)]) (u' := [(92, pm_upd (pm_ct M 92) 0 ((2 ^ tR T - 1 : Nat) : Int)), (93, pm_upd (pm_ct M 93) 0 ((2 ^ tC T - 1 : Nat) : Int)), (94, pm_upd (pm_ct M 94) 0 0), (95, pm_upd (pm_ct M 95) 0 0), (96, pm_upd (pm_ct M 96) 0 0), (97, pm_upd (pm_ct M 97) 0 0)]) (M := M) lk_99_47 (lay7.ay (by decide) rfl) (by omega) (j := 0) (by omega) rfl ?_
  refine g_iconst lk_99_48 ?_
  refine g_istore_n (ls' := [(2, ((87 : Nat) : Int)), (2, ((24 : Nat) : Int)), (0, 0)]) lk_99_49 rfl rfl ?_
  refine loop l 0 _ (by omega) lay8 (Fr.mu _ _ rfl) ⟨g0 (g := pm_ct M 92) (by rw [Mu_ct]; rfl), g0 (g := pm_ct M 93) (by rw [Mu_ct]; rfl), g0 (g := pm_ct M 94) (by rw [Mu_ct]; rfl), g0 (g := pm_ct M 95) (by rw [Mu_ct]; rfl), g0 (g := pm_ct M 96) (by rw [Mu_ct]; rfl), g0 (g := pm_ct M 97) (by rw [Mu_ct]; rfl)⟩
