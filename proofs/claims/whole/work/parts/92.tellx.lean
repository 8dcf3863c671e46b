/-! ===== trees told: the class's calls ===== -/
theorem c_Nodes_tellT0 {d mc ms : Nat} {M : pm_M} (lay : Lay M) {L : List Nd} (hct : pm_ct M 55 3 = (L.length : Int)) (hL : NdL M 56 57 58 L) (h71 : L.length ≤ 31) {k w : Int} (hk : pm_inI k) (hw : pm_inI w) :
    pm_E d 38 [(2, ((55 : Nat) : Int)), (0, k), (0, w)] M mc ms (fun ρ M' => ρ = some (0, ndOf L k w) ∧ M' = M) := by
  obtain ⟨l, hl⟩ : ∃ l, l = L.length := ⟨_, rfl⟩
  rw [← hl] at hct h71
  show Wp d 38 0 [(2, ((55 : Nat) : Int)), (0, k), (0, w)] [] M mc ms _
  by_cases h0 : k < 0 ∨ (l : Int) ≤ k
  · skip
    refine g_iload_n lk_38_0 rfl ?_
    refine g_if (t := 12) lk_38_1 rfl (by first | assumption | (unfold pm_inI; omega)) (fun h1 => ?_) (fun h1 => ?_)
    · replace h1 : k < 0 := h1
      refine g_iconst lk_38_12 ?_
      refine g_ireturn lk_38_13 (fun h => absurd h (by decide)) ?_
      exact ⟨by unfold ndOf; rw [if_pos (by omega)], rfl⟩
    · replace h1 : ¬ (k < 0) := h1
      refine g_iload_n lk_38_4 rfl ?_
      refine g_aload_n lk_38_5 rfl ?_
      refine m_getfield (u := []) (M := M) lk_38_6 rfl (lay.on (by decide) rfl) (v := (l : Int)) hct ?_
      refine g_icmp (t := 14) lk_38_9 rfl (by first | assumption | (unfold pm_inI; omega)) (by first | assumption | (unfold pm_inI; omega)) (fun h2 => ?_) (fun h2 => ?_)
      · replace h2 : k < (l : Int) := h2
        omega
      · replace h2 : ¬ (k < (l : Int)) := h2
        refine g_iconst lk_38_12 ?_
        refine g_ireturn lk_38_13 (fun h => absurd h (by decide)) ?_
        exact ⟨by unfold ndOf; rw [if_pos (by omega)], rfl⟩
  obtain ⟨i, rfl⟩ := Int.eq_ofNat_of_zero_le (show 0 ≤ k by omega)
  obtain ⟨x, hx⟩ : ∃ x, L[i]? = some x := ⟨L[i]'(by omega), List.getElem?_eq_getElem (by omega)⟩
  have xx := hL i x hx
  have gd : L.getD i (0, 0, 0) = x := by rw [List.getD_eq_getElem?_getD, hx]; rfl
  have nd : ndOf L (i : Int) w = if w = 0 then (x.1 : Int) else if w = 1 then (x.2.1 : Int) else if w = 2 then x.2.2 else -1 := by
    unfold ndOf
    rw [if_neg (by omega), Int.toNat_natCast, gd]
  rw [nd]
  refine g_iload_n lk_38_0 rfl ?_
  refine g_if (t := 12) lk_38_1 rfl (by first | assumption | (unfold pm_inI; omega)) (fun h1 => ?_) (fun h1 => ?_)
  · replace h1 : (i : Int) < 0 := h1
    refine g_iconst lk_38_12 ?_
    refine g_ireturn lk_38_13 (fun h => absurd h (by decide)) ?_
    omega
  · replace h1 : ¬ ((i : Int) < 0) := h1
    refine g_iload_n lk_38_4 rfl ?_
    refine g_aload_n lk_38_5 rfl ?_
    refine m_getfield (u := []) (M := M) lk_38_6 rfl (lay.on (by decide) rfl) (v := (l : Int)) hct ?_
    refine g_icmp (t := 14) lk_38_9 rfl (by first | assumption | (unfold pm_inI; omega)) (by first | assumption | (unfold pm_inI; omega)) (fun h2 => ?_) (fun h2 => ?_)
    · replace h2 : (i : Int) < (l : Int) := h2
      refine g_iload_n lk_38_14 rfl ?_
      refine g_tsw lk_38_15 (by first | assumption | (unfold pm_inI; omega)) (And.intro (fun h3 => ?_) (fun h3 => (And.intro (fun h4 => ?_) (fun h4 => (And.intro (fun h5 => ?_) (fun h5 => ?_))))))
      · replace h3 : w = 0 := h3
        show Wp _ 38 40 [(2, ((55 : Nat) : Int)), (0, (i : Int)), (0, w)] [] M _ _ _
        refine g_aload_n lk_38_40 rfl ?_
        refine g_getfield lk_38_41 rfl (lay.on (by decide) rfl) (v := ((56 : Nat) : Int)) (lay.rf rfl) ?_
        refine g_iload_n lk_38_44 rfl ?_
        refine m_iaload (u := []) (M := M) lk_38_45 (lay.ay (by decide) rfl) (by omega) (j := i) (by omega) (v := (x.1 : Int)) xx.1 ?_
        refine g_ireturn lk_38_46 (fun h => absurd h (by decide)) ?_
        exact ⟨by rw [if_pos (by omega)], rfl⟩
      · replace h4 : w = 1 := h4
        show Wp _ 38 47 [(2, ((55 : Nat) : Int)), (0, (i : Int)), (0, w)] [] M _ _ _
        refine g_aload_n lk_38_47 rfl ?_
        refine g_getfield lk_38_48 rfl (lay.on (by decide) rfl) (v := ((57 : Nat) : Int)) (lay.rf rfl) ?_
        refine g_iload_n lk_38_51 rfl ?_
        refine m_iaload (u := []) (M := M) lk_38_52 (lay.ay (by decide) rfl) (by omega) (j := i) (by omega) (v := (x.2.1 : Int)) xx.2.1 ?_
        refine g_ireturn lk_38_53 (fun h => absurd h (by decide)) ?_
        exact ⟨by rw [if_neg (by omega), if_pos (by omega)], rfl⟩
      · replace h5 : w = 2 := h5
        show Wp _ 38 54 [(2, ((55 : Nat) : Int)), (0, (i : Int)), (0, w)] [] M _ _ _
        refine g_aload_n lk_38_54 rfl ?_
        refine g_getfield lk_38_55 rfl (lay.on (by decide) rfl) (v := ((58 : Nat) : Int)) (lay.rf rfl) ?_
        refine g_iload_n lk_38_58 rfl ?_
        refine m_iaload (u := []) (M := M) lk_38_59 (lay.ay (by decide) rfl) (by omega) (j := i) (by omega) (v := x.2.2) xx.2.2 ?_
        refine g_ireturn lk_38_60 (fun h => absurd h (by decide)) ?_
        exact ⟨by rw [if_neg (by omega), if_neg (by omega), if_pos (by omega)], rfl⟩
      · show Wp _ 38 61 [(2, ((55 : Nat) : Int)), (0, (i : Int)), (0, w)] [] M _ _ _
        replace h3 : ¬ w = 0 := h3
        replace h4 : ¬ w = 1 := h4
        replace h5 : ¬ w = 2 := h5
        refine g_iconst lk_38_61 ?_
        refine g_ireturn lk_38_62 (fun h => absurd h (by decide)) ?_
        exact ⟨by rw [if_neg (by omega), if_neg (by omega), if_neg (by omega)], rfl⟩
    · replace h2 : ¬ ((i : Int) < (l : Int)) := h2
      refine g_iconst lk_38_12 ?_
      refine g_ireturn lk_38_13 (fun h => absurd h (by decide)) ?_
      omega
theorem c_Nodes_tellT1 {d mc ms : Nat} {M : pm_M} (lay : Lay M) {L : List Nd} (hct : pm_ct M 66 3 = (L.length : Int)) (hL : NdL M 67 68 69 L) (h71 : L.length ≤ 31) {k w : Int} (hk : pm_inI k) (hw : pm_inI w) :
    pm_E d 38 [(2, ((66 : Nat) : Int)), (0, k), (0, w)] M mc ms (fun ρ M' => ρ = some (0, ndOf L k w) ∧ M' = M) := by
  obtain ⟨l, hl⟩ : ∃ l, l = L.length := ⟨_, rfl⟩
  rw [← hl] at hct h71
  show Wp d 38 0 [(2, ((66 : Nat) : Int)), (0, k), (0, w)] [] M mc ms _
  by_cases h0 : k < 0 ∨ (l : Int) ≤ k
  · skip
    refine g_iload_n lk_38_0 rfl ?_
    refine g_if (t := 12) lk_38_1 rfl (by first | assumption | (unfold pm_inI; omega)) (fun h1 => ?_) (fun h1 => ?_)
    · replace h1 : k < 0 := h1
      refine g_iconst lk_38_12 ?_
      refine g_ireturn lk_38_13 (fun h => absurd h (by decide)) ?_
      exact ⟨by unfold ndOf; rw [if_pos (by omega)], rfl⟩
    · replace h1 : ¬ (k < 0) := h1
      refine g_iload_n lk_38_4 rfl ?_
      refine g_aload_n lk_38_5 rfl ?_
      refine m_getfield (u := []) (M := M) lk_38_6 rfl (lay.on (by decide) rfl) (v := (l : Int)) hct ?_
      refine g_icmp (t := 14) lk_38_9 rfl (by first | assumption | (unfold pm_inI; omega)) (by first | assumption | (unfold pm_inI; omega)) (fun h2 => ?_) (fun h2 => ?_)
      · replace h2 : k < (l : Int) := h2
        omega
      · replace h2 : ¬ (k < (l : Int)) := h2
        refine g_iconst lk_38_12 ?_
        refine g_ireturn lk_38_13 (fun h => absurd h (by decide)) ?_
        exact ⟨by unfold ndOf; rw [if_pos (by omega)], rfl⟩
  obtain ⟨i, rfl⟩ := Int.eq_ofNat_of_zero_le (show 0 ≤ k by omega)
  obtain ⟨x, hx⟩ : ∃ x, L[i]? = some x := ⟨L[i]'(by omega), List.getElem?_eq_getElem (by omega)⟩
  have xx := hL i x hx
  have gd : L.getD i (0, 0, 0) = x := by rw [List.getD_eq_getElem?_getD, hx]; rfl
  have nd : ndOf L (i : Int) w = if w = 0 then (x.1 : Int) else if w = 1 then (x.2.1 : Int) else if w = 2 then x.2.2 else -1 := by
    unfold ndOf
    rw [if_neg (by omega), Int.toNat_natCast, gd]
  rw [nd]
  refine g_iload_n lk_38_0 rfl ?_
  refine g_if (t := 12) lk_38_1 rfl (by first | assumption | (unfold pm_inI; omega)) (fun h1 => ?_) (fun h1 => ?_)
  · replace h1 : (i : Int) < 0 := h1
    refine g_iconst lk_38_12 ?_
    refine g_ireturn lk_38_13 (fun h => absurd h (by decide)) ?_
    omega
  · replace h1 : ¬ ((i : Int) < 0) := h1
    refine g_iload_n lk_38_4 rfl ?_
    refine g_aload_n lk_38_5 rfl ?_
    refine m_getfield (u := []) (M := M) lk_38_6 rfl (lay.on (by decide) rfl) (v := (l : Int)) hct ?_
    refine g_icmp (t := 14) lk_38_9 rfl (by first | assumption | (unfold pm_inI; omega)) (by first | assumption | (unfold pm_inI; omega)) (fun h2 => ?_) (fun h2 => ?_)
    · replace h2 : (i : Int) < (l : Int) := h2
      refine g_iload_n lk_38_14 rfl ?_
      refine g_tsw lk_38_15 (by first | assumption | (unfold pm_inI; omega)) (And.intro (fun h3 => ?_) (fun h3 => (And.intro (fun h4 => ?_) (fun h4 => (And.intro (fun h5 => ?_) (fun h5 => ?_))))))
      · replace h3 : w = 0 := h3
        show Wp _ 38 40 [(2, ((66 : Nat) : Int)), (0, (i : Int)), (0, w)] [] M _ _ _
        refine g_aload_n lk_38_40 rfl ?_
        refine g_getfield lk_38_41 rfl (lay.on (by decide) rfl) (v := ((67 : Nat) : Int)) (lay.rf rfl) ?_
        refine g_iload_n lk_38_44 rfl ?_
        refine m_iaload (u := []) (M := M) lk_38_45 (lay.ay (by decide) rfl) (by omega) (j := i) (by omega) (v := (x.1 : Int)) xx.1 ?_
        refine g_ireturn lk_38_46 (fun h => absurd h (by decide)) ?_
        exact ⟨by rw [if_pos (by omega)], rfl⟩
      · replace h4 : w = 1 := h4
        show Wp _ 38 47 [(2, ((66 : Nat) : Int)), (0, (i : Int)), (0, w)] [] M _ _ _
        refine g_aload_n lk_38_47 rfl ?_
        refine g_getfield lk_38_48 rfl (lay.on (by decide) rfl) (v := ((68 : Nat) : Int)) (lay.rf rfl) ?_
        refine g_iload_n lk_38_51 rfl ?_
        refine m_iaload (u := []) (M := M) lk_38_52 (lay.ay (by decide) rfl) (by omega) (j := i) (by omega) (v := (x.2.1 : Int)) xx.2.1 ?_
        refine g_ireturn lk_38_53 (fun h => absurd h (by decide)) ?_
        exact ⟨by rw [if_neg (by omega), if_pos (by omega)], rfl⟩
      · replace h5 : w = 2 := h5
        show Wp _ 38 54 [(2, ((66 : Nat) : Int)), (0, (i : Int)), (0, w)] [] M _ _ _
        refine g_aload_n lk_38_54 rfl ?_
        refine g_getfield lk_38_55 rfl (lay.on (by decide) rfl) (v := ((69 : Nat) : Int)) (lay.rf rfl) ?_
        refine g_iload_n lk_38_58 rfl ?_
        refine m_iaload (u := []) (M := M) lk_38_59 (lay.ay (by decide) rfl) (by omega) (j := i) (by omega) (v := x.2.2) xx.2.2 ?_
        refine g_ireturn lk_38_60 (fun h => absurd h (by decide)) ?_
        exact ⟨by rw [if_neg (by omega), if_neg (by omega), if_pos (by omega)], rfl⟩
      · show Wp _ 38 61 [(2, ((66 : Nat) : Int)), (0, (i : Int)), (0, w)] [] M _ _ _
        replace h3 : ¬ w = 0 := h3
        replace h4 : ¬ w = 1 := h4
        replace h5 : ¬ w = 2 := h5
        refine g_iconst lk_38_61 ?_
        refine g_ireturn lk_38_62 (fun h => absurd h (by decide)) ?_
        exact ⟨by rw [if_neg (by omega), if_neg (by omega), if_neg (by omega)], rfl⟩
    · replace h2 : ¬ ((i : Int) < (l : Int)) := h2
      refine g_iconst lk_38_12 ?_
      refine g_ireturn lk_38_13 (fun h => absurd h (by decide)) ?_
      omega
theorem c_Nodes_tellT2 {d mc ms : Nat} {M : pm_M} (lay : Lay M) {L : List Nd} (hct : pm_ct M 77 3 = (L.length : Int)) (hL : NdL M 78 79 80 L) (h71 : L.length ≤ 31) {k w : Int} (hk : pm_inI k) (hw : pm_inI w) :
    pm_E d 38 [(2, ((77 : Nat) : Int)), (0, k), (0, w)] M mc ms (fun ρ M' => ρ = some (0, ndOf L k w) ∧ M' = M) := by
  obtain ⟨l, hl⟩ : ∃ l, l = L.length := ⟨_, rfl⟩
  rw [← hl] at hct h71
  show Wp d 38 0 [(2, ((77 : Nat) : Int)), (0, k), (0, w)] [] M mc ms _
  by_cases h0 : k < 0 ∨ (l : Int) ≤ k
  · skip
    refine g_iload_n lk_38_0 rfl ?_
    refine g_if (t := 12) lk_38_1 rfl (by first | assumption | (unfold pm_inI; omega)) (fun h1 => ?_) (fun h1 => ?_)
    · replace h1 : k < 0 := h1
      refine g_iconst lk_38_12 ?_
      refine g_ireturn lk_38_13 (fun h => absurd h (by decide)) ?_
      exact ⟨by unfold ndOf; rw [if_pos (by omega)], rfl⟩
    · replace h1 : ¬ (k < 0) := h1
      refine g_iload_n lk_38_4 rfl ?_
      refine g_aload_n lk_38_5 rfl ?_
      refine m_getfield (u := []) (M := M) lk_38_6 rfl (lay.on (by decide) rfl) (v := (l : Int)) hct ?_
      refine g_icmp (t := 14) lk_38_9 rfl (by first | assumption | (unfold pm_inI; omega)) (by first | assumption | (unfold pm_inI; omega)) (fun h2 => ?_) (fun h2 => ?_)
      · replace h2 : k < (l : Int) := h2
        omega
      · replace h2 : ¬ (k < (l : Int)) := h2
        refine g_iconst lk_38_12 ?_
        refine g_ireturn lk_38_13 (fun h => absurd h (by decide)) ?_
        exact ⟨by unfold ndOf; rw [if_pos (by omega)], rfl⟩
  obtain ⟨i, rfl⟩ := Int.eq_ofNat_of_zero_le (show 0 ≤ k by omega)
  obtain ⟨x, hx⟩ : ∃ x, L[i]? = some x := ⟨L[i]'(by omega), List.getElem?_eq_getElem (by omega)⟩
  have xx := hL i x hx
  have gd : L.getD i (0, 0, 0) = x := by rw [List.getD_eq_getElem?_getD, hx]; rfl
  have nd : ndOf L (i : Int) w = if w = 0 then (x.1 : Int) else if w = 1 then (x.2.1 : Int) else if w = 2 then x.2.2 else -1 := by
    unfold ndOf
    rw [if_neg (by omega), Int.toNat_natCast, gd]
  rw [nd]
  refine g_iload_n lk_38_0 rfl ?_
  refine g_if (t := 12) lk_38_1 rfl (by first | assumption | (unfold pm_inI; omega)) (fun h1 => ?_) (fun h1 => ?_)
  · replace h1 : (i : Int) < 0 := h1
    refine g_iconst lk_38_12 ?_
    refine g_ireturn lk_38_13 (fun h => absurd h (by decide)) ?_
    omega
  · replace h1 : ¬ ((i : Int) < 0) := h1
    refine g_iload_n lk_38_4 rfl ?_
    refine g_aload_n lk_38_5 rfl ?_
    refine m_getfield (u := []) (M := M) lk_38_6 rfl (lay.on (by decide) rfl) (v := (l : Int)) hct ?_
    refine g_icmp (t := 14) lk_38_9 rfl (by first | assumption | (unfold pm_inI; omega)) (by first | assumption | (unfold pm_inI; omega)) (fun h2 => ?_) (fun h2 => ?_)
    · replace h2 : (i : Int) < (l : Int) := h2
      refine g_iload_n lk_38_14 rfl ?_
      refine g_tsw lk_38_15 (by first | assumption | (unfold pm_inI; omega)) (And.intro (fun h3 => ?_) (fun h3 => (And.intro (fun h4 => ?_) (fun h4 => (And.intro (fun h5 => ?_) (fun h5 => ?_))))))
      · replace h3 : w = 0 := h3
        show Wp _ 38 40 [(2, ((77 : Nat) : Int)), (0, (i : Int)), (0, w)] [] M _ _ _
        refine g_aload_n lk_38_40 rfl ?_
        refine g_getfield lk_38_41 rfl (lay.on (by decide) rfl) (v := ((78 : Nat) : Int)) (lay.rf rfl) ?_
        refine g_iload_n lk_38_44 rfl ?_
        refine m_iaload (u := []) (M := M) lk_38_45 (lay.ay (by decide) rfl) (by omega) (j := i) (by omega) (v := (x.1 : Int)) xx.1 ?_
        refine g_ireturn lk_38_46 (fun h => absurd h (by decide)) ?_
        exact ⟨by rw [if_pos (by omega)], rfl⟩
      · replace h4 : w = 1 := h4
        show Wp _ 38 47 [(2, ((77 : Nat) : Int)), (0, (i : Int)), (0, w)] [] M _ _ _
        refine g_aload_n lk_38_47 rfl ?_
        refine g_getfield lk_38_48 rfl (lay.on (by decide) rfl) (v := ((79 : Nat) : Int)) (lay.rf rfl) ?_
        refine g_iload_n lk_38_51 rfl ?_
        refine m_iaload (u := []) (M := M) lk_38_52 (lay.ay (by decide) rfl) (by omega) (j := i) (by omega) (v := (x.2.1 : Int)) xx.2.1 ?_
        refine g_ireturn lk_38_53 (fun h => absurd h (by decide)) ?_
        exact ⟨by rw [if_neg (by omega), if_pos (by omega)], rfl⟩
      · replace h5 : w = 2 := h5
        show Wp _ 38 54 [(2, ((77 : Nat) : Int)), (0, (i : Int)), (0, w)] [] M _ _ _
        refine g_aload_n lk_38_54 rfl ?_
        refine g_getfield lk_38_55 rfl (lay.on (by decide) rfl) (v := ((80 : Nat) : Int)) (lay.rf rfl) ?_
        refine g_iload_n lk_38_58 rfl ?_
        refine m_iaload (u := []) (M := M) lk_38_59 (lay.ay (by decide) rfl) (by omega) (j := i) (by omega) (v := x.2.2) xx.2.2 ?_
        refine g_ireturn lk_38_60 (fun h => absurd h (by decide)) ?_
        exact ⟨by rw [if_neg (by omega), if_neg (by omega), if_pos (by omega)], rfl⟩
      · show Wp _ 38 61 [(2, ((77 : Nat) : Int)), (0, (i : Int)), (0, w)] [] M _ _ _
        replace h3 : ¬ w = 0 := h3
        replace h4 : ¬ w = 1 := h4
        replace h5 : ¬ w = 2 := h5
        refine g_iconst lk_38_61 ?_
        refine g_ireturn lk_38_62 (fun h => absurd h (by decide)) ?_
        exact ⟨by rw [if_neg (by omega), if_neg (by omega), if_neg (by omega)], rfl⟩
    · replace h2 : ¬ ((i : Int) < (l : Int)) := h2
      refine g_iconst lk_38_12 ?_
      refine g_ireturn lk_38_13 (fun h => absurd h (by decide)) ?_
      omega
theorem c_Nodes_tellT3 {d mc ms : Nat} {M : pm_M} (lay : Lay M) {L : List Nd} (hct : pm_ct M 88 3 = (L.length : Int)) (hL : NdL M 89 90 91 L) (h71 : L.length ≤ 31) {k w : Int} (hk : pm_inI k) (hw : pm_inI w) :
    pm_E d 38 [(2, ((88 : Nat) : Int)), (0, k), (0, w)] M mc ms (fun ρ M' => ρ = some (0, ndOf L k w) ∧ M' = M) := by
  obtain ⟨l, hl⟩ : ∃ l, l = L.length := ⟨_, rfl⟩
  rw [← hl] at hct h71
  show Wp d 38 0 [(2, ((88 : Nat) : Int)), (0, k), (0, w)] [] M mc ms _
  by_cases h0 : k < 0 ∨ (l : Int) ≤ k
  · skip
    refine g_iload_n lk_38_0 rfl ?_
    refine g_if (t := 12) lk_38_1 rfl (by first | assumption | (unfold pm_inI; omega)) (fun h1 => ?_) (fun h1 => ?_)
    · replace h1 : k < 0 := h1
      refine g_iconst lk_38_12 ?_
      refine g_ireturn lk_38_13 (fun h => absurd h (by decide)) ?_
      exact ⟨by unfold ndOf; rw [if_pos (by omega)], rfl⟩
    · replace h1 : ¬ (k < 0) := h1
      refine g_iload_n lk_38_4 rfl ?_
      refine g_aload_n lk_38_5 rfl ?_
      refine m_getfield (u := []) (M := M) lk_38_6 rfl (lay.on (by decide) rfl) (v := (l : Int)) hct ?_
      refine g_icmp (t := 14) lk_38_9 rfl (by first | assumption | (unfold pm_inI; omega)) (by first | assumption | (unfold pm_inI; omega)) (fun h2 => ?_) (fun h2 => ?_)
      · replace h2 : k < (l : Int) := h2
        omega
      · replace h2 : ¬ (k < (l : Int)) := h2
        refine g_iconst lk_38_12 ?_
        refine g_ireturn lk_38_13 (fun h => absurd h (by decide)) ?_
        exact ⟨by unfold ndOf; rw [if_pos (by omega)], rfl⟩
  obtain ⟨i, rfl⟩ := Int.eq_ofNat_of_zero_le (show 0 ≤ k by omega)
  obtain ⟨x, hx⟩ : ∃ x, L[i]? = some x := ⟨L[i]'(by omega), List.getElem?_eq_getElem (by omega)⟩
  have xx := hL i x hx
  have gd : L.getD i (0, 0, 0) = x := by rw [List.getD_eq_getElem?_getD, hx]; rfl
  have nd : ndOf L (i : Int) w = if w = 0 then (x.1 : Int) else if w = 1 then (x.2.1 : Int) else if w = 2 then x.2.2 else -1 := by
    unfold ndOf
    rw [if_neg (by omega), Int.toNat_natCast, gd]
  rw [nd]
  refine g_iload_n lk_38_0 rfl ?_
  refine g_if (t := 12) lk_38_1 rfl (by first | assumption | (unfold pm_inI; omega)) (fun h1 => ?_) (fun h1 => ?_)
  · replace h1 : (i : Int) < 0 := h1
    refine g_iconst lk_38_12 ?_
    refine g_ireturn lk_38_13 (fun h => absurd h (by decide)) ?_
    omega
  · replace h1 : ¬ ((i : Int) < 0) := h1
    refine g_iload_n lk_38_4 rfl ?_
    refine g_aload_n lk_38_5 rfl ?_
    refine m_getfield (u := []) (M := M) lk_38_6 rfl (lay.on (by decide) rfl) (v := (l : Int)) hct ?_
    refine g_icmp (t := 14) lk_38_9 rfl (by first | assumption | (unfold pm_inI; omega)) (by first | assumption | (unfold pm_inI; omega)) (fun h2 => ?_) (fun h2 => ?_)
    · replace h2 : (i : Int) < (l : Int) := h2
      refine g_iload_n lk_38_14 rfl ?_
      refine g_tsw lk_38_15 (by first | assumption | (unfold pm_inI; omega)) (And.intro (fun h3 => ?_) (fun h3 => (And.intro (fun h4 => ?_) (fun h4 => (And.intro (fun h5 => ?_) (fun h5 => ?_))))))
      · replace h3 : w = 0 := h3
        show Wp _ 38 40 [(2, ((88 : Nat) : Int)), (0, (i : Int)), (0, w)] [] M _ _ _
        refine g_aload_n lk_38_40 rfl ?_
        refine g_getfield lk_38_41 rfl (lay.on (by decide) rfl) (v := ((89 : Nat) : Int)) (lay.rf rfl) ?_
        refine g_iload_n lk_38_44 rfl ?_
        refine m_iaload (u := []) (M := M) lk_38_45 (lay.ay (by decide) rfl) (by omega) (j := i) (by omega) (v := (x.1 : Int)) xx.1 ?_
        refine g_ireturn lk_38_46 (fun h => absurd h (by decide)) ?_
        exact ⟨by rw [if_pos (by omega)], rfl⟩
      · replace h4 : w = 1 := h4
        show Wp _ 38 47 [(2, ((88 : Nat) : Int)), (0, (i : Int)), (0, w)] [] M _ _ _
        refine g_aload_n lk_38_47 rfl ?_
        refine g_getfield lk_38_48 rfl (lay.on (by decide) rfl) (v := ((90 : Nat) : Int)) (lay.rf rfl) ?_
        refine g_iload_n lk_38_51 rfl ?_
        refine m_iaload (u := []) (M := M) lk_38_52 (lay.ay (by decide) rfl) (by omega) (j := i) (by omega) (v := (x.2.1 : Int)) xx.2.1 ?_
        refine g_ireturn lk_38_53 (fun h => absurd h (by decide)) ?_
        exact ⟨by rw [if_neg (by omega), if_pos (by omega)], rfl⟩
      · replace h5 : w = 2 := h5
        show Wp _ 38 54 [(2, ((88 : Nat) : Int)), (0, (i : Int)), (0, w)] [] M _ _ _
        refine g_aload_n lk_38_54 rfl ?_
        refine g_getfield lk_38_55 rfl (lay.on (by decide) rfl) (v := ((91 : Nat) : Int)) (lay.rf rfl) ?_
        refine g_iload_n lk_38_58 rfl ?_
        refine m_iaload (u := []) (M := M) lk_38_59 (lay.ay (by decide) rfl) (by omega) (j := i) (by omega) (v := x.2.2) xx.2.2 ?_
        refine g_ireturn lk_38_60 (fun h => absurd h (by decide)) ?_
        exact ⟨by rw [if_neg (by omega), if_neg (by omega), if_pos (by omega)], rfl⟩
      · show Wp _ 38 61 [(2, ((88 : Nat) : Int)), (0, (i : Int)), (0, w)] [] M _ _ _
        replace h3 : ¬ w = 0 := h3
        replace h4 : ¬ w = 1 := h4
        replace h5 : ¬ w = 2 := h5
        refine g_iconst lk_38_61 ?_
        refine g_ireturn lk_38_62 (fun h => absurd h (by decide)) ?_
        exact ⟨by rw [if_neg (by omega), if_neg (by omega), if_neg (by omega)], rfl⟩
    · replace h2 : ¬ ((i : Int) < (l : Int)) := h2
      refine g_iconst lk_38_12 ?_
      refine g_ireturn lk_38_13 (fun h => absurd h (by decide)) ?_
      omega
theorem c_Told_isIdle {d mc ms : Nat} {M : pm_M} (lay : Lay M) {T : Tab} (hT : TabOK T) {t : Nat} (t4 : t < 4) {L : List Nd} {p dp : Nat → Nat} (hX : TdAt M (54 + 11 * t) T L p dp) {k : Nat} (hk : k < L.length) :
    pm_E d 101 [(2, ((54 + 11 * t : Nat) : Int)), (0, (k : Int))] M mc ms (fun ρ M' => ρ = some (0, if idl (CM T L p k) then 1 else 0) ∧ M' = M) := by
  rcases (by omega : t = 0 ∨ t = 1 ∨ t = 2 ∨ t = 3) with e | e | e | e
  · subst e; exact c_Told_isIdle0 lay hT hX hk
  · subst e; exact c_Told_isIdle1 lay hT hX hk
  · subst e; exact c_Told_isIdle2 lay hT hX hk
  · subst e; exact c_Told_isIdle3 lay hT hX hk
theorem c_Told_leafCount {d mc ms : Nat} {M : pm_M} (lay : Lay M) {T : Tab} (hT : TabOK T) {t : Nat} (t4 : t < 4) {L : List Nd} {p dp : Nat → Nat} (hX : TdAt M (54 + 11 * t) T L p dp) :
    pm_E d 107 [(2, ((54 + 11 * t : Nat) : Int))] M mc ms (fun ρ M' => ρ = some (0, (tLf L : Int)) ∧ M' = M) := by
  rcases (by omega : t = 0 ∨ t = 1 ∨ t = 2 ∨ t = 3) with e | e | e | e
  · subst e; exact c_Told_leafCount0 lay hX
  · subst e; exact c_Told_leafCount1 lay hX
  · subst e; exact c_Told_leafCount2 lay hX
  · subst e; exact c_Told_leafCount3 lay hX
theorem c_Told_idleCount {d mc ms : Nat} {M : pm_M} (lay : Lay M) {T : Tab} (hT : TabOK T) {t : Nat} (t4 : t < 4) {L : List Nd} {p dp : Nat → Nat} (hX : TdAt M (54 + 11 * t) T L p dp) :
    pm_E (d + 1) 108 [(2, ((54 + 11 * t : Nat) : Int))] M mc ms (fun ρ M' => ρ = some (0, (tId T L p : Int)) ∧ M' = M) := by
  rcases (by omega : t = 0 ∨ t = 1 ∨ t = 2 ∨ t = 3) with e | e | e | e
  · subst e; exact c_Told_idleCount0 lay hT hX
  · subst e; exact c_Told_idleCount1 lay hT hX
  · subst e; exact c_Told_idleCount2 lay hT hX
  · subst e; exact c_Told_idleCount3 lay hT hX
theorem c_Told_worstCost {d mc ms : Nat} {M : pm_M} (lay : Lay M) {T : Tab} (hT : TabOK T) {t : Nat} (t4 : t < 4) {L : List Nd} {p dp : Nat → Nat} (hX : TdAt M (54 + 11 * t) T L p dp) :
    pm_E (d + 2) 109 [(2, ((54 + 11 * t : Nat) : Int))] M mc ms (fun ρ M' => ρ = some (0, (x2 T (fun r c => wc T L r c 9 0) : Int)) ∧ M' = M) := by
  rcases (by omega : t = 0 ∨ t = 1 ∨ t = 2 ∨ t = 3) with e | e | e | e
  · subst e; exact c_Told_worstCost0 lay hT hX
  · subst e; exact c_Told_worstCost1 lay hT hX
  · subst e; exact c_Told_worstCost2 lay hT hX
  · subst e; exact c_Told_worstCost3 lay hT hX
theorem c_Told_mostTurns {d mc ms : Nat} {M : pm_M} (lay : Lay M) {T : Tab} (hT : TabOK T) {t : Nat} (t4 : t < 4) {L : List Nd} {p dp : Nat → Nat} (hX : TdAt M (54 + 11 * t) T L p dp) :
    pm_E (d + 2) 110 [(2, ((54 + 11 * t : Nat) : Int))] M mc ms (fun ρ M' => ρ = some (0, (x2 T (fun r c => wt L r c 9 0 0) : Int)) ∧ M' = M) := by
  rcases (by omega : t = 0 ∨ t = 1 ∨ t = 2 ∨ t = 3) with e | e | e | e
  · subst e; exact c_Told_mostTurns0 lay hT hX
  · subst e; exact c_Told_mostTurns1 lay hT hX
  · subst e; exact c_Told_mostTurns2 lay hT hX
  · subst e; exact c_Told_mostTurns3 lay hT hX
theorem c_Told_sumOfCosts {d mc ms : Nat} {M : pm_M} (lay : Lay M) {T : Tab} (hT : TabOK T) (hM : TbAt M 24 T) {t : Nat} (t4 : t < 4) {L : List Nd} {p dp : Nat → Nat} (hX : TdAt M (54 + 11 * t) T L p dp) :
    pm_E (d + 5) 111 [(2, ((54 + 11 * t : Nat) : Int)), (2, ((24 : Nat) : Int))] M mc ms (fun ρ M' => ρ = some (0, (tSum T L : Int)) ∧ M' = M) := by
  rcases (by omega : t = 0 ∨ t = 1 ∨ t = 2 ∨ t = 3) with e | e | e | e
  · subst e; exact c_Told_sumOfCosts0 lay hT hM hX
  · subst e; exact c_Told_sumOfCosts1 lay hT hM hX
  · subst e; exact c_Told_sumOfCosts2 lay hT hM hX
  · subst e; exact c_Told_sumOfCosts3 lay hT hM hX
theorem c_Told_wrongAbove {d mc ms : Nat} {M : pm_M} (lay : Lay M) {T : Tab} (hT : TabOK T) (hM : TbAt M 24 T) {t : Nat} (t4 : t < 4) {L : List Nd} {p dp : Nat → Nat} (hX : TdAt M (54 + 11 * t) T L p dp) {g : Nat} (hg : g ≤ 9) :
    pm_E (d + 4) 112 [(2, ((54 + 11 * t : Nat) : Int)), (2, ((24 : Nat) : Int)), (0, (g : Int))] M mc ms (fun ρ M' => ρ = some (0, (tWro T L g : Int)) ∧ M' = M) := by
  rcases (by omega : t = 0 ∨ t = 1 ∨ t = 2 ∨ t = 3) with e | e | e | e
  · subst e; exact c_Told_wrongAbove0 lay hT hM hX hg
  · subst e; exact c_Told_wrongAbove1 lay hT hM hX hg
  · subst e; exact c_Told_wrongAbove2 lay hT hM hX hg
  · subst e; exact c_Told_wrongAbove3 lay hT hM hX hg
theorem c_Told_leafAt {d mc ms : Nat} {M : pm_M} (lay : Lay M) {T : Tab} (hT : TabOK T) {t : Nat} (t4 : t < 4) {L : List Nd} {p dp : Nat → Nat} (hX : TdAt M (54 + 11 * t) T L p dp) {r c : Nat} (hr : r < 6) (hc : c < 6) :
    pm_E (d + 3) 104 [(2, ((54 + 11 * t : Nat) : Int)), (0, (r : Int)), (0, (c : Int))] M mc ms (fun ρ M' => ρ = some (0, (wy L r c 9 0 : Int)) ∧ M' = M) := by
  rcases (by omega : t = 0 ∨ t = 1 ∨ t = 2 ∨ t = 3) with e | e | e | e
  · subst e; exact c_Told_leafAt0 lay hX.1.1 hX.2.1 hX.2.2.1 hr hc
  · subst e; exact c_Told_leafAt1 lay hX.1.1 hX.2.1 hX.2.2.1 hr hc
  · subst e; exact c_Told_leafAt2 lay hX.1.1 hX.2.1 hX.2.2.1 hr hc
  · subst e; exact c_Told_leafAt3 lay hX.1.1 hX.2.1 hX.2.2.1 hr hc
theorem c_Told_answerAt {d mc ms : Nat} {M : pm_M} (lay : Lay M) {T : Tab} (hT : TabOK T) {t : Nat} (t4 : t < 4) {L : List Nd} {p dp : Nat → Nat} (hX : TdAt M (54 + 11 * t) T L p dp) {r c : Nat} (hr : r < 6) (hc : c < 6) :
    pm_E (d + 4) 105 [(2, ((54 + 11 * t : Nat) : Int)), (0, (r : Int)), (0, (c : Int))] M mc ms (fun ρ M' => ρ = some (0, ((ndA L (wy L r c 9 0)).2.1 : Int)) ∧ M' = M) := by
  rcases (by omega : t = 0 ∨ t = 1 ∨ t = 2 ∨ t = 3) with e | e | e | e
  · subst e; exact c_Told_answerAt0 lay hX.1.1 hX.2.1 hX.2.2.1 hr hc
  · subst e; exact c_Told_answerAt1 lay hX.1.1 hX.2.1 hX.2.2.1 hr hc
  · subst e; exact c_Told_answerAt2 lay hX.1.1 hX.2.1 hX.2.2.1 hr hc
  · subst e; exact c_Told_answerAt3 lay hX.1.1 hX.2.1 hX.2.2.1 hr hc
theorem c_Told_bitAt {d mc ms : Nat} {M : pm_M} (lay : Lay M) {T : Tab} (hT : TabOK T) {t : Nat} (t4 : t < 4) {L : List Nd} {p dp : Nat → Nat} (hX : TdAt M (54 + 11 * t) T L p dp) {r c i : Nat} (hr : r < 6) (hc : c < 6) (hi : i < wl L r c 9 0) :
    pm_E (d + 3) 106 [(2, ((54 + 11 * t : Nat) : Int)), (0, (r : Int)), (0, (c : Int)), (0, (i : Int))] M mc ms (fun ρ M' => ρ = some (0, if yesAt L r c (wn L r c i) then 1 else 0) ∧ M' = M) := by
  rcases (by omega : t = 0 ∨ t = 1 ∨ t = 2 ∨ t = 3) with e | e | e | e
  · subst e; exact c_Told_bitAt0 lay hX.1.1 hX.2.1 hX.2.2.1 hr hc hi
  · subst e; exact c_Told_bitAt1 lay hX.1.1 hX.2.1 hX.2.2.1 hr hc hi
  · subst e; exact c_Told_bitAt2 lay hX.1.1 hX.2.1 hX.2.2.1 hr hc hi
  · subst e; exact c_Told_bitAt3 lay hX.1.1 hX.2.1 hX.2.2.1 hr hc hi
theorem c_Told_graftedCost {d mc ms : Nat} {M : pm_M} (lay0 : Lay M) {T : Tab} (hT : TabOK T) (hM0 : TbAt M 24 T) {s fa w f : Nat} (hA0 : CA M T s fa) (hB0 : CB M T 0 98 w f) (hff : f = 1 → fa = 1) (hsw : s ≠ w) (b1 : 2 ≤ mc) (b2 : 8192 ≤ ms) {t : Nat} (t4 : t < 4) {L : List Nd} {p dp : Nat → Nat} (hX : TdAt M (54 + 11 * t) T L p dp) {g : Nat} (hg : g ≤ 9) :
    pm_E (d + 5) 113 [(2, ((54 + 11 * t : Nat) : Int)), (0, (g : Int)), (2, ((98 : Nat) : Int))] M mc ms (fun ρ M' => ρ = some (0, (x2 T (gCel T L p g) : Int)) ∧ Wk M M' T s fa w f) := by
  rcases (by omega : t = 0 ∨ t = 1 ∨ t = 2 ∨ t = 3) with e | e | e | e
  · subst e; exact c_Told_graftedCost0 lay0 hT hM0 hA0 hB0 hff hsw b1 b2 hX hg
  · subst e; exact c_Told_graftedCost1 lay0 hT hM0 hA0 hB0 hff hsw b1 b2 hX hg
  · subst e; exact c_Told_graftedCost2 lay0 hT hM0 hA0 hB0 hff hsw b1 b2 hX hg
  · subst e; exact c_Told_graftedCost3 lay0 hT hM0 hA0 hB0 hff hsw b1 b2 hX hg
theorem c_Nodes_tellT {d mc ms : Nat} {M : pm_M} (lay : Lay M) {t : Nat} (t4 : t < 4) {T : Tab} {L : List Nd} {p dp : Nat → Nat} (hX : TdAt M (54 + 11 * t) T L p dp) {k w : Int} (hk : pm_inI k) (hw : pm_inI w) :
    pm_E d 38 [(2, ((55 + 11 * t : Nat) : Int)), (0, k), (0, w)] M mc ms (fun ρ M' => ρ = some (0, ndOf L k w) ∧ M' = M) := by
  have l31 := hX.1.1.2.1
  rcases (by omega : t = 0 ∨ t = 1 ∨ t = 2 ∨ t = 3) with e | e | e | e
  · subst e; exact c_Nodes_tellT0 lay hX.2.1 hX.2.2.1 (by omega) hk hw
  · subst e; exact c_Nodes_tellT1 lay hX.2.1 hX.2.2.1 (by omega) hk hw
  · subst e; exact c_Nodes_tellT2 lay hX.2.1 hX.2.2.1 (by omega) hk hw
  · subst e; exact c_Nodes_tellT3 lay hX.2.1 hX.2.2.1 (by omega) hk hw
/-- where a tree's cells lie -/
theorem td_l {M : pm_M} (lay : Lay M) {t : Nat} (t4 : t < 4) : pm_on M (54 + 11 * t) 9 ∧ pm_ct M 26 t = ((54 + 11 * t : Nat) : Int) ∧ pm_on M (55 + 11 * t) 4 ∧ pm_ct M (54 + 11 * t) 0 = ((55 + 11 * t : Nat) : Int) ∧ pm_ct M (54 + 11 * t) 1 = ((59 + 11 * t : Nat) : Int) ∧ pm_ct M (54 + 11 * t) 2 = ((60 + 11 * t : Nat) : Int) ∧ pm_ct M (54 + 11 * t) 3 = ((61 + 11 * t : Nat) : Int) ∧ pm_ct M (54 + 11 * t) 4 = ((62 + 11 * t : Nat) : Int) ∧ pm_ay M (59 + 11 * t) 100 31 ∧ pm_ay M (60 + 11 * t) 100 31 ∧ pm_ay M (61 + 11 * t) 100 31 ∧ pm_ay M (62 + 11 * t) 100 31 := by
  rcases (by omega : t = 0 ∨ t = 1 ∨ t = 2 ∨ t = 3) with e | e | e | e
  · subst e; exact ⟨lay.on (by decide) rfl, lay.rf rfl, lay.on (by decide) rfl, lay.rf rfl, lay.rf rfl, lay.rf rfl, lay.rf rfl, lay.rf rfl, lay.ay (by decide) rfl, lay.ay (by decide) rfl, lay.ay (by decide) rfl, lay.ay (by decide) rfl⟩
  · subst e; exact ⟨lay.on (by decide) rfl, lay.rf rfl, lay.on (by decide) rfl, lay.rf rfl, lay.rf rfl, lay.rf rfl, lay.rf rfl, lay.rf rfl, lay.ay (by decide) rfl, lay.ay (by decide) rfl, lay.ay (by decide) rfl, lay.ay (by decide) rfl⟩
  · subst e; exact ⟨lay.on (by decide) rfl, lay.rf rfl, lay.on (by decide) rfl, lay.rf rfl, lay.rf rfl, lay.rf rfl, lay.rf rfl, lay.rf rfl, lay.ay (by decide) rfl, lay.ay (by decide) rfl, lay.ay (by decide) rfl, lay.ay (by decide) rfl⟩
  · subst e; exact ⟨lay.on (by decide) rfl, lay.rf rfl, lay.on (by decide) rfl, lay.rf rfl, lay.rf rfl, lay.rf rfl, lay.rf rfl, lay.rf rfl, lay.ay (by decide) rfl, lay.ay (by decide) rfl, lay.ay (by decide) rfl, lay.ay (by decide) rfl⟩
def TsX (M : pm_M) (T : Tab) (Ts : List (List Nd)) (ps dps : Nat → Nat → Nat) : Prop := Ts.length ≤ 4 ∧ pm_ct M 1 11 = (Ts.length : Int) ∧ ∀ t, t < Ts.length → TdAt M (54 + 11 * t) T (Ts.getD t []) (ps t) (dps t)
theorem TsX.at {M : pm_M} {T : Tab} {Ts : List (List Nd)} {ps dps : Nat → Nat → Nat} (h : TsX M T Ts ps dps) : TsAt M Ts :=
  ⟨h.1, h.2.1, fun t ht => by
    obtain ⟨a1, a2, a3, _⟩ := h.2.2 t ht
    exact ⟨⟨a2, a3⟩, _, a1.1⟩⟩
abbrev inTs (Ts : List (List Nd)) (t : Int) : Prop := 0 ≤ t ∧ t < (Ts.length : Int)
def sTree (T : Tab) (Ts : List (List Nd)) (ps : Nat → Nat → Nat) (t w : Int) : Int := if inTs Ts t then (if w = 0 then ((Ts.getD t.toNat []).length : Int) else if w = 1 then (tLf (Ts.getD t.toNat []) : Int) else if w = 2 then (x2 T (fun r c => wc T (Ts.getD t.toNat []) r c 9 0) : Int) else if w = 3 then (tSum T (Ts.getD t.toNat []) : Int) else if w = 4 then (tWro T (Ts.getD t.toNat []) 9 : Int) else if w = 5 then (tId T (Ts.getD t.toNat []) (ps t.toNat) : Int) else if w = 6 then (x2 T (fun r c => wt (Ts.getD t.toNat []) r c 9 0 0) : Int) else -1) else -1
def tdOf (T : Tab) (L : List Nd) (p : Nat → Nat) (k w : Int) : Int := if w = 3 then (if idl (CM T L p k.toNat) then 0 else ((CM T L p k.toNat).1 : Int)) else if w = 4 then (if idl (CM T L p k.toNat) then 0 else ((CM T L p k.toNat).2.1 : Int)) else ndOf L k w
def sTold (T : Tab) (Ts : List (List Nd)) (ps : Nat → Nat → Nat) (t k w : Int) : Int := if inTs Ts t ∧ (0 ≤ k ∧ k < ((Ts.getD t.toNat []).length : Int)) then tdOf T (Ts.getD t.toNat []) (ps t.toNat) k w else -1
def sGraft (T : Tab) (Ts : List (List Nd)) (ps : Nat → Nat → Nat) (t g w : Int) : Int := if inTs Ts t ∧ (0 ≤ g ∧ g ≤ 9) then (if w = 0 then (x2 T (gCel T (Ts.getD t.toNat []) (ps t.toNat) g.toNat) : Int) else if w = 1 then (tWro T (Ts.getD t.toNat []) g.toNat : Int) else -1) else -1
def unl (L L' : List Nd) (r c : Nat) : Nat := if (ndA L (wy L r c 9 0)).2.1 = (ndA L' (wy L' r c 9 0)).2.1 then 0 else 1
def sApart (T : Tab) (Ts : List (List Nd)) (a b : Int) : Int := if inTs Ts a ∧ inTs Ts b then (s2 T (unl (Ts.getD a.toNat []) (Ts.getD b.toNat [])) : Int) else -1
theorem c_X_cost {d mc ms : Nat} {M : pm_M} (lay : Lay M) {T : Tab} (hT : TabOK T) (hM : TbAt M 24 T) {Ts : List (List Nd)} {ps dps : Nat → Nat → Nat} (hTs : TsX M T Ts ps dps) {t r c : Int} (ht : pm_inI t) (hr : pm_inI r) (hc : pm_inI c) :
    pm_E (d + 5) 142 [(2, ((1 : Nat) : Int)), (0, t), (0, r), (0, c)] M mc ms (fun ρ M' => ρ = some (0, sCost T Ts t r c) ∧ M' = M) := by
  have it := c_X_isTree (d := d + 4) (mc := 0) (ms := 0) lay hTs.at ht
  have hs := c_Table_has (d := d + 4) (mc := 0) (ms := 0) lay (Or.inr rfl) hT hM hr hc
  show Wp (d + 5) 142 0 [(2, ((1 : Nat) : Int)), (0, t), (0, r), (0, c)] [] M mc ms _
  by_cases e1 : 0 ≤ t ∧ t < (Ts.length : Int)
  · rw [if_pos e1] at it
    by_cases e2 : (0 ≤ r ∧ r < tR T) ∧ (0 ≤ c ∧ c < tC T)
    · rw [if_pos e2] at hs
      have l4 := hTs.1
      have hR := hT.1
      have hC := hT.2.1
      have es : sCost T Ts t r c = (wc T (Ts.getD t.toNat []) r.toNat c.toNat 9 0 : Int) := by unfold sCost; rw [if_pos ⟨e1, e2⟩]
      rw [es]
      obtain ⟨t, rfl⟩ := Int.eq_ofNat_of_zero_le e1.1
      obtain ⟨r, rfl⟩ := Int.eq_ofNat_of_zero_le e2.1.1
      obtain ⟨c, rfl⟩ := Int.eq_ofNat_of_zero_le e2.2.1
      rw [Int.toNat_natCast, Int.toNat_natCast, Int.toNat_natCast]
      have td := hTs.2.2 t (by omega)
      obtain ⟨u1, u2, u3, u4, u5, u6, u7, u8, u9, u10, u11, u12⟩ := td_l lay (t := t) (by omega)
      have lf := c_Told_leafAt (d := d + 1) (mc := 0) (ms := 0) lay hT (t := t) (by omega) td (r := r) (c := c) (by omega) (by omega)
      have la := leaf_at hT td.1.1 td.1.2.1 (r := r) (c := c) (by omega) (by omega)
      have l31 := td.1.1.2.1
      have rd := (td.2.2.2 _ la.1).2.2.2.1
      rw [la.2.2.2.2.1] at rd
      obtain ⟨k, hk⟩ : ∃ k, k = wy (Ts.getD t []) r c 9 0 := ⟨_, rfl⟩
      rw [← hk] at lf la rd
      have k31 : k < 31 := by have := la.1; omega
      obtain ⟨v, hv⟩ : ∃ v, v = wc T (Ts.getD t []) r c 9 0 := ⟨_, rfl⟩
      rw [← hv] at rd ⊢
      obtain ⟨P, hP⟩ : ∃ P, P = 54 + 11 * t := ⟨_, rfl⟩
      obtain ⟨E, hE⟩ : ∃ E, E = 62 + 11 * t := ⟨_, rfl⟩
      rw [show 54 + 11 * t + 8 = E by omega] at rd
      rw [← hP] at u1 u2 u8 lf
      rw [← hE] at u8 u12
      refine g_aload_n lk_142_0 rfl ?_
      refine g_iload_n lk_142_1 rfl ?_
      refine g_virtual (p := 1) (Qc := _) lk_142_2 rfl (Nat.le_of_ble_eq_true rfl) rfl rfl (lay.on (by decide) rfl) (Nat.le_of_ble_eq_true rfl) (Nat.le_of_ble_eq_true rfl) (Nat.zero_le _) (Nat.zero_le _) (it) ?_
      rintro _ N1 ⟨rfl, hN1⟩
      rw [hN1]
      show Wp _ 142 5 [(2, ((1 : Nat) : Int)), (0, (t : Int)), (0, (r : Int)), (0, (c : Int))] [(0, 1)] M _ _ _
      refine g_if (t := 20) lk_142_5 rfl (by first | (unfold pm_inI; omega) | exact pm_and_in _ _ | exact pm_shr_in _ _ | exact pm_or_in _ _ | exact pm_xor_in _ _ | exact pm_shl_in _ _ | exact pm_cmp_in _ _ | exact pm_b8_in _ | (unfold pm_inI; split <;> omega)) (fun h => absurd h (show ¬ ((1 : Int) = (0 : Int)) by omega)) (fun _ => ?_)
      refine g_aload_n lk_142_8 rfl ?_
      refine g_getfield lk_142_9 rfl (lay.on (by decide) rfl) (v := ((24 : Nat) : Int)) (lay.rf rfl) ?_
      refine g_iload_n lk_142_12 rfl ?_
      refine g_iload_n lk_142_13 rfl ?_
      refine g_virtual (p := 24) (Qc := _) lk_142_14 rfl (Nat.le_of_ble_eq_true rfl) rfl rfl (lay.on (by decide) rfl) (Nat.le_of_ble_eq_true rfl) (Nat.le_of_ble_eq_true rfl) (Nat.zero_le _) (Nat.zero_le _) (hs) ?_
      rintro _ N2 ⟨rfl, hN2⟩
      rw [hN2]
      show Wp _ 142 17 [(2, ((1 : Nat) : Int)), (0, (t : Int)), (0, (r : Int)), (0, (c : Int))] [(0, 1)] M _ _ _
      refine g_if (t := 22) lk_142_17 rfl (by first | (unfold pm_inI; omega) | exact pm_and_in _ _ | exact pm_shr_in _ _ | exact pm_or_in _ _ | exact pm_xor_in _ _ | exact pm_shl_in _ _ | exact pm_cmp_in _ _ | exact pm_b8_in _ | (unfold pm_inI; split <;> omega)) (fun _ => ?_) (fun h => absurd (show ¬ (1 : Int) = (0 : Int) by omega) h)
      refine g_aload_n lk_142_22 rfl ?_
      refine g_getfield lk_142_23 rfl (lay.on (by decide) rfl) (v := ((26 : Nat) : Int)) (lay.rf rfl) ?_
      refine g_iload_n lk_142_26 rfl ?_
      refine g_aaload lk_142_27 (by decide) (lay.ay (by decide) rfl) (by omega) (v := ((P : Nat) : Int)) u2 ?_
      refine g_getfield lk_142_28 rfl u1 (v := ((E : Nat) : Int)) u8 ?_
      refine g_aload_n lk_142_31 rfl ?_
      refine g_getfield lk_142_32 rfl (lay.on (by decide) rfl) (v := ((26 : Nat) : Int)) (lay.rf rfl) ?_
      refine g_iload_n lk_142_35 rfl ?_
      refine g_aaload lk_142_36 (by decide) (lay.ay (by decide) rfl) (by omega) (v := ((P : Nat) : Int)) u2 ?_
      refine g_iload_n lk_142_37 rfl ?_
      refine g_iload_n lk_142_38 rfl ?_
      refine g_virtual (p := P) (Qc := _) lk_142_39 rfl (Nat.le_of_ble_eq_true rfl) rfl rfl u1 (Nat.le_of_ble_eq_true rfl) (Nat.le_of_ble_eq_true rfl) (Nat.zero_le _) (Nat.zero_le _) (lf) ?_
      rintro _ N3 ⟨rfl, hN3⟩
      rw [hN3]
      show Wp _ 142 42 [(2, ((1 : Nat) : Int)), (0, (t : Int)), (0, (r : Int)), (0, (c : Int))] [(0, (k : Int)), (2, ((E : Nat) : Int))] M _ _ _
      refine g_iaload lk_142_42 u12 (by omega) (v := (v : Int)) rd ?_
      refine g_ireturn lk_142_43 (fun h => absurd h (by decide)) ?_
      exact ⟨rfl, rfl⟩
    · rw [if_neg e2] at hs
      have es : sCost T Ts t r c = -1 := by unfold sCost; rw [if_neg (fun q => e2 q.2)]
      rw [es]
      refine g_aload_n lk_142_0 rfl ?_
      refine g_iload_n lk_142_1 rfl ?_
      refine g_virtual (p := 1) (Qc := _) lk_142_2 rfl (Nat.le_of_ble_eq_true rfl) rfl rfl (lay.on (by decide) rfl) (Nat.le_of_ble_eq_true rfl) (Nat.le_of_ble_eq_true rfl) (Nat.zero_le _) (Nat.zero_le _) (it) ?_
      rintro _ N1 ⟨rfl, hN1⟩
      rw [hN1]
      show Wp _ 142 5 [(2, ((1 : Nat) : Int)), (0, t), (0, r), (0, c)] [(0, 1)] M _ _ _
      refine g_if (t := 20) lk_142_5 rfl (by first | (unfold pm_inI; omega) | exact pm_and_in _ _ | exact pm_shr_in _ _ | exact pm_or_in _ _ | exact pm_xor_in _ _ | exact pm_shl_in _ _ | exact pm_cmp_in _ _ | exact pm_b8_in _ | (unfold pm_inI; split <;> omega)) (fun h => absurd h (show ¬ ((1 : Int) = (0 : Int)) by omega)) (fun _ => ?_)
      refine g_aload_n lk_142_8 rfl ?_
      refine g_getfield lk_142_9 rfl (lay.on (by decide) rfl) (v := ((24 : Nat) : Int)) (lay.rf rfl) ?_
      refine g_iload_n lk_142_12 rfl ?_
      refine g_iload_n lk_142_13 rfl ?_
      refine g_virtual (p := 24) (Qc := _) lk_142_14 rfl (Nat.le_of_ble_eq_true rfl) rfl rfl (lay.on (by decide) rfl) (Nat.le_of_ble_eq_true rfl) (Nat.le_of_ble_eq_true rfl) (Nat.zero_le _) (Nat.zero_le _) (hs) ?_
      rintro _ N2 ⟨rfl, hN2⟩
      rw [hN2]
      show Wp _ 142 17 [(2, ((1 : Nat) : Int)), (0, t), (0, r), (0, c)] [(0, 0)] M _ _ _
      refine g_if (t := 22) lk_142_17 rfl (by first | (unfold pm_inI; omega) | exact pm_and_in _ _ | exact pm_shr_in _ _ | exact pm_or_in _ _ | exact pm_xor_in _ _ | exact pm_shl_in _ _ | exact pm_cmp_in _ _ | exact pm_b8_in _ | (unfold pm_inI; split <;> omega)) (fun h => absurd h (show ¬ (¬ (0 : Int) = (0 : Int)) by omega)) (fun _ => ?_)
      refine g_iconst lk_142_20 ?_
      refine g_ireturn lk_142_21 (fun h => absurd h (by decide)) ?_
      exact ⟨rfl, rfl⟩
  · rw [if_neg e1] at it
    have es : sCost T Ts t r c = -1 := by unfold sCost; rw [if_neg (fun q => e1 q.1)]
    rw [es]
    refine g_aload_n lk_142_0 rfl ?_
    refine g_iload_n lk_142_1 rfl ?_
    refine g_virtual (p := 1) (Qc := _) lk_142_2 rfl (Nat.le_of_ble_eq_true rfl) rfl rfl (lay.on (by decide) rfl) (Nat.le_of_ble_eq_true rfl) (Nat.le_of_ble_eq_true rfl) (Nat.zero_le _) (Nat.zero_le _) (it) ?_
    rintro _ N1 ⟨rfl, hN1⟩
    rw [hN1]
    show Wp _ 142 5 [(2, ((1 : Nat) : Int)), (0, t), (0, r), (0, c)] [(0, 0)] M _ _ _
    refine g_if (t := 20) lk_142_5 rfl (by first | (unfold pm_inI; omega) | exact pm_and_in _ _ | exact pm_shr_in _ _ | exact pm_or_in _ _ | exact pm_xor_in _ _ | exact pm_shl_in _ _ | exact pm_cmp_in _ _ | exact pm_b8_in _ | (unfold pm_inI; split <;> omega)) (fun _ => ?_) (fun h => absurd (show (0 : Int) = (0 : Int) by omega) h)
    refine g_iconst lk_142_20 ?_
    refine g_ireturn lk_142_21 (fun h => absurd h (by decide)) ?_
    exact ⟨rfl, rfl⟩
theorem c_X_bit {d mc ms : Nat} {M : pm_M} (lay : Lay M) {T : Tab} (hT : TabOK T) (hM : TbAt M 24 T) {Ts : List (List Nd)} {ps dps : Nat → Nat → Nat} (hTs : TsX M T Ts ps dps) {t r c i : Int} (ht : pm_inI t) (hr : pm_inI r) (hc : pm_inI c) (hi : pm_inI i) :
    pm_E (d + 5) 144 [(2, ((1 : Nat) : Int)), (0, t), (0, r), (0, c), (0, i)] M mc ms (fun ρ M' => ρ = some (0, sBit T Ts t r c i) ∧ M' = M) := by
  have it := c_X_isTree (d := d + 4) (mc := 0) (ms := 0) lay hTs.at ht
  have hs := c_Table_has (d := d + 4) (mc := 0) (ms := 0) lay (Or.inr rfl) hT hM hr hc
  show Wp (d + 5) 144 0 [(2, ((1 : Nat) : Int)), (0, t), (0, r), (0, c), (0, i), (9, 0)] [] M mc ms _
  by_cases e1 : 0 ≤ t ∧ t < (Ts.length : Int)
  · rw [if_pos e1] at it
    by_cases e2 : (0 ≤ r ∧ r < tR T) ∧ (0 ≤ c ∧ c < tC T)
    · rw [if_pos e2] at hs
      have l4 := hTs.1
      have hR := hT.1
      have hC := hT.2.1
      have es : sBit T Ts t r c i = (if i = -1 then (wl (Ts.getD t.toNat []) r.toNat c.toNat 9 0 : Int) else if 0 ≤ i ∧ i ≤ (wl (Ts.getD t.toNat []) r.toNat c.toNat 9 0 : Int) - 1 then (if yesAt (Ts.getD t.toNat []) r.toNat c.toNat (wn (Ts.getD t.toNat []) r.toNat c.toNat i.toNat) then 1 else 0) else -1) := by unfold sBit; rw [if_pos ⟨e1, e2⟩]
      rw [es]
      obtain ⟨t, rfl⟩ := Int.eq_ofNat_of_zero_le e1.1
      obtain ⟨r, rfl⟩ := Int.eq_ofNat_of_zero_le e2.1.1
      obtain ⟨c, rfl⟩ := Int.eq_ofNat_of_zero_le e2.2.1
      rw [Int.toNat_natCast, Int.toNat_natCast, Int.toNat_natCast]
      have td := hTs.2.2 t (by omega)
      obtain ⟨u1, u2, u3, u4, u5, u6, u7, u8, u9, u10, u11, u12⟩ := td_l lay (t := t) (by omega)
      have lf := c_Told_leafAt (d := d + 1) (mc := 0) (ms := 0) lay hT (t := t) (by omega) td (r := r) (c := c) (by omega) (by omega)
      have ba := fun n => c_Told_bitAt (d := d + 1) (mc := 0) (ms := 0) lay hT (t := t) (by omega) td (r := r) (c := c) (i := n) (by omega) (by omega)
      have la := leaf_at hT td.1.1 td.1.2.1 (r := r) (c := c) (by omega) (by omega)
      have l31 := td.1.1.2.1
      have w9 := wl_9 (Ts.getD t []) r c 9 0
      have rd := (td.2.2.2 _ la.1).2.2.1
      rw [la.2.2.2.1] at rd
      obtain ⟨k, hk⟩ : ∃ k, k = wy (Ts.getD t []) r c 9 0 := ⟨_, rfl⟩
      rw [← hk] at lf la rd
      have k31 : k < 31 := by have := la.1; omega
      obtain ⟨v, hv⟩ : ∃ v, v = wl (Ts.getD t []) r c 9 0 := ⟨_, rfl⟩
      rw [← hv] at rd ba w9 ⊢
      obtain ⟨P, hP⟩ : ∃ P, P = 54 + 11 * t := ⟨_, rfl⟩
      obtain ⟨E, hE⟩ : ∃ E, E = 61 + 11 * t := ⟨_, rfl⟩
      rw [show 54 + 11 * t + 7 = E by omega] at rd
      rw [← hP] at u1 u2 u7 lf ba
      rw [← hE] at u7 u11
      by_cases q1 : i = -1
      · subst q1
        refine g_aload_n lk_144_0 rfl ?_
        refine g_iload_n lk_144_1 rfl ?_
        refine g_virtual (p := 1) (Qc := _) lk_144_2 rfl (Nat.le_of_ble_eq_true rfl) rfl rfl (lay.on (by decide) rfl) (Nat.le_of_ble_eq_true rfl) (Nat.le_of_ble_eq_true rfl) (Nat.zero_le _) (Nat.zero_le _) (it) ?_
        rintro _ N1 ⟨rfl, hN1⟩
        rw [hN1]
        show Wp _ 144 5 [(2, ((1 : Nat) : Int)), (0, (t : Int)), (0, (r : Int)), (0, (c : Int)), (0, (-1)), (9, 0)] [(0, 1)] M _ _ _
        refine g_if (t := 20) lk_144_5 rfl (by first | (unfold pm_inI; omega) | exact pm_and_in _ _ | exact pm_shr_in _ _ | exact pm_or_in _ _ | exact pm_xor_in _ _ | exact pm_shl_in _ _ | exact pm_cmp_in _ _ | exact pm_b8_in _ | (unfold pm_inI; split <;> omega)) (fun h => absurd h (show ¬ ((1 : Int) = (0 : Int)) by omega)) (fun _ => ?_)
        refine g_aload_n lk_144_8 rfl ?_
        refine g_getfield lk_144_9 rfl (lay.on (by decide) rfl) (v := ((24 : Nat) : Int)) (lay.rf rfl) ?_
        refine g_iload_n lk_144_12 rfl ?_
        refine g_iload_n lk_144_13 rfl ?_
        refine g_virtual (p := 24) (Qc := _) lk_144_14 rfl (Nat.le_of_ble_eq_true rfl) rfl rfl (lay.on (by decide) rfl) (Nat.le_of_ble_eq_true rfl) (Nat.le_of_ble_eq_true rfl) (Nat.zero_le _) (Nat.zero_le _) (hs) ?_
        rintro _ N2 ⟨rfl, hN2⟩
        rw [hN2]
        show Wp _ 144 17 [(2, ((1 : Nat) : Int)), (0, (t : Int)), (0, (r : Int)), (0, (c : Int)), (0, (-1)), (9, 0)] [(0, 1)] M _ _ _
        refine g_if (t := 22) lk_144_17 rfl (by first | (unfold pm_inI; omega) | exact pm_and_in _ _ | exact pm_shr_in _ _ | exact pm_or_in _ _ | exact pm_xor_in _ _ | exact pm_shl_in _ _ | exact pm_cmp_in _ _ | exact pm_b8_in _ | (unfold pm_inI; split <;> omega)) (fun _ => ?_) (fun h => absurd (show ¬ (1 : Int) = (0 : Int) by omega) h)
        refine g_aload_n lk_144_22 rfl ?_
        refine g_getfield lk_144_23 rfl (lay.on (by decide) rfl) (v := ((26 : Nat) : Int)) (lay.rf rfl) ?_
        refine g_iload_n lk_144_26 rfl ?_
        refine g_aaload lk_144_27 (by decide) (lay.ay (by decide) rfl) (by omega) (v := ((P : Nat) : Int)) u2 ?_
        refine g_getfield lk_144_28 rfl u1 (v := ((E : Nat) : Int)) u7 ?_
        refine g_aload_n lk_144_31 rfl ?_
        refine g_getfield lk_144_32 rfl (lay.on (by decide) rfl) (v := ((26 : Nat) : Int)) (lay.rf rfl) ?_
        refine g_iload_n lk_144_35 rfl ?_
        refine g_aaload lk_144_36 (by decide) (lay.ay (by decide) rfl) (by omega) (v := ((P : Nat) : Int)) u2 ?_
        refine g_iload_n lk_144_37 rfl ?_
        refine g_iload_n lk_144_38 rfl ?_
        refine g_virtual (p := P) (Qc := _) lk_144_39 rfl (Nat.le_of_ble_eq_true rfl) rfl rfl u1 (Nat.le_of_ble_eq_true rfl) (Nat.le_of_ble_eq_true rfl) (Nat.zero_le _) (Nat.zero_le _) (lf) ?_
        rintro _ N3 ⟨rfl, hN3⟩
        rw [hN3]
        show Wp _ 144 42 [(2, ((1 : Nat) : Int)), (0, (t : Int)), (0, (r : Int)), (0, (c : Int)), (0, (-1)), (9, 0)] [(0, (k : Int)), (2, ((E : Nat) : Int))] M _ _ _
        refine g_iaload lk_144_42 u11 (by omega) (v := (v : Int)) rd ?_
        refine g_istore (ls' := [(2, ((1 : Nat) : Int)), (0, (t : Int)), (0, (r : Int)), (0, (c : Int)), (0, (-1)), (0, (v : Int))]) lk_144_43 rfl rfl ?_
        refine g_iload lk_144_45 rfl ?_
        refine g_iconst lk_144_47 ?_
        refine g_icmp (t := 54) lk_144_48 rfl (by first | (unfold pm_inI; omega) | exact pm_and_in _ _ | exact pm_shr_in _ _ | exact pm_or_in _ _ | exact pm_xor_in _ _ | exact pm_shl_in _ _ | exact pm_cmp_in _ _ | exact pm_b8_in _ | (unfold pm_inI; split <;> omega)) (by first | (unfold pm_inI; omega) | exact pm_and_in _ _ | exact pm_shr_in _ _ | exact pm_or_in _ _ | exact pm_xor_in _ _ | exact pm_shl_in _ _ | exact pm_cmp_in _ _ | exact pm_b8_in _ | (unfold pm_inI; split <;> omega)) (fun h => absurd h (show ¬ (¬ (-1 : Int) = (-1 : Int)) by omega)) (fun _ => ?_)
        refine g_iload lk_144_51 rfl ?_
        refine g_ireturn lk_144_53 (fun h => absurd h (by decide)) ?_
        exact ⟨by rw [if_pos rfl], rfl⟩
      rw [if_neg q1]
      by_cases q2 : 0 ≤ i ∧ i ≤ (v : Int) - 1
      · rw [if_pos q2]
        obtain ⟨n, rfl⟩ := Int.eq_ofNat_of_zero_le q2.1
        rw [Int.toNat_natCast]
        have bn := ba n (by omega)
        obtain ⟨y, hy⟩ : ∃ y : Int, y = if yesAt (Ts.getD t []) r c (wn (Ts.getD t []) r c n) then 1 else 0 := ⟨_, rfl⟩
        rw [← hy] at bn ⊢
        refine g_aload_n lk_144_0 rfl ?_
        refine g_iload_n lk_144_1 rfl ?_
        refine g_virtual (p := 1) (Qc := _) lk_144_2 rfl (Nat.le_of_ble_eq_true rfl) rfl rfl (lay.on (by decide) rfl) (Nat.le_of_ble_eq_true rfl) (Nat.le_of_ble_eq_true rfl) (Nat.zero_le _) (Nat.zero_le _) (it) ?_
        rintro _ N1 ⟨rfl, hN1⟩
        rw [hN1]
        show Wp _ 144 5 [(2, ((1 : Nat) : Int)), (0, (t : Int)), (0, (r : Int)), (0, (c : Int)), (0, (n : Int)), (9, 0)] [(0, 1)] M _ _ _
        refine g_if (t := 20) lk_144_5 rfl (by first | (unfold pm_inI; omega) | exact pm_and_in _ _ | exact pm_shr_in _ _ | exact pm_or_in _ _ | exact pm_xor_in _ _ | exact pm_shl_in _ _ | exact pm_cmp_in _ _ | exact pm_b8_in _ | (unfold pm_inI; split <;> omega)) (fun h => absurd h (show ¬ ((1 : Int) = (0 : Int)) by omega)) (fun _ => ?_)
        refine g_aload_n lk_144_8 rfl ?_
        refine g_getfield lk_144_9 rfl (lay.on (by decide) rfl) (v := ((24 : Nat) : Int)) (lay.rf rfl) ?_
        refine g_iload_n lk_144_12 rfl ?_
        refine g_iload_n lk_144_13 rfl ?_
        refine g_virtual (p := 24) (Qc := _) lk_144_14 rfl (Nat.le_of_ble_eq_true rfl) rfl rfl (lay.on (by decide) rfl) (Nat.le_of_ble_eq_true rfl) (Nat.le_of_ble_eq_true rfl) (Nat.zero_le _) (Nat.zero_le _) (hs) ?_
        rintro _ N2 ⟨rfl, hN2⟩
        rw [hN2]
        show Wp _ 144 17 [(2, ((1 : Nat) : Int)), (0, (t : Int)), (0, (r : Int)), (0, (c : Int)), (0, (n : Int)), (9, 0)] [(0, 1)] M _ _ _
        refine g_if (t := 22) lk_144_17 rfl (by first | (unfold pm_inI; omega) | exact pm_and_in _ _ | exact pm_shr_in _ _ | exact pm_or_in _ _ | exact pm_xor_in _ _ | exact pm_shl_in _ _ | exact pm_cmp_in _ _ | exact pm_b8_in _ | (unfold pm_inI; split <;> omega)) (fun _ => ?_) (fun h => absurd (show ¬ (1 : Int) = (0 : Int) by omega) h)
        refine g_aload_n lk_144_22 rfl ?_
        refine g_getfield lk_144_23 rfl (lay.on (by decide) rfl) (v := ((26 : Nat) : Int)) (lay.rf rfl) ?_
        refine g_iload_n lk_144_26 rfl ?_
        refine g_aaload lk_144_27 (by decide) (lay.ay (by decide) rfl) (by omega) (v := ((P : Nat) : Int)) u2 ?_
        refine g_getfield lk_144_28 rfl u1 (v := ((E : Nat) : Int)) u7 ?_
        refine g_aload_n lk_144_31 rfl ?_
        refine g_getfield lk_144_32 rfl (lay.on (by decide) rfl) (v := ((26 : Nat) : Int)) (lay.rf rfl) ?_
        refine g_iload_n lk_144_35 rfl ?_
        refine g_aaload lk_144_36 (by decide) (lay.ay (by decide) rfl) (by omega) (v := ((P : Nat) : Int)) u2 ?_
        refine g_iload_n lk_144_37 rfl ?_
        refine g_iload_n lk_144_38 rfl ?_
        refine g_virtual (p := P) (Qc := _) lk_144_39 rfl (Nat.le_of_ble_eq_true rfl) rfl rfl u1 (Nat.le_of_ble_eq_true rfl) (Nat.le_of_ble_eq_true rfl) (Nat.zero_le _) (Nat.zero_le _) (lf) ?_
        rintro _ N3 ⟨rfl, hN3⟩
        rw [hN3]
        show Wp _ 144 42 [(2, ((1 : Nat) : Int)), (0, (t : Int)), (0, (r : Int)), (0, (c : Int)), (0, (n : Int)), (9, 0)] [(0, (k : Int)), (2, ((E : Nat) : Int))] M _ _ _
        refine g_iaload lk_144_42 u11 (by omega) (v := (v : Int)) rd ?_
        refine g_istore (ls' := [(2, ((1 : Nat) : Int)), (0, (t : Int)), (0, (r : Int)), (0, (c : Int)), (0, (n : Int)), (0, (v : Int))]) lk_144_43 rfl rfl ?_
        refine g_iload lk_144_45 rfl ?_
        refine g_iconst lk_144_47 ?_
        refine g_icmp (t := 54) lk_144_48 rfl (by first | (unfold pm_inI; omega) | exact pm_and_in _ _ | exact pm_shr_in _ _ | exact pm_or_in _ _ | exact pm_xor_in _ _ | exact pm_shl_in _ _ | exact pm_cmp_in _ _ | exact pm_b8_in _ | (unfold pm_inI; split <;> omega)) (by first | (unfold pm_inI; omega) | exact pm_and_in _ _ | exact pm_shr_in _ _ | exact pm_or_in _ _ | exact pm_xor_in _ _ | exact pm_shl_in _ _ | exact pm_cmp_in _ _ | exact pm_b8_in _ | (unfold pm_inI; split <;> omega)) (fun h4 => ?_) (fun h4 => ?_)
        · replace h4 : ¬ (n : Int) = (-1) := h4
          refine g_iload lk_144_54 rfl ?_
          refine g_if (t := 66) lk_144_56 rfl (by first | (unfold pm_inI; omega) | exact pm_and_in _ _ | exact pm_shr_in _ _ | exact pm_or_in _ _ | exact pm_xor_in _ _ | exact pm_shl_in _ _ | exact pm_cmp_in _ _ | exact pm_b8_in _ | (unfold pm_inI; split <;> omega)) (fun h5 => ?_) (fun h5 => ?_)
          · replace h5 : (n : Int) < 0 := h5
            refine g_iconst lk_144_66 ?_
            refine g_goto (t := 83) lk_144_67 rfl ?_
            refine g_ireturn lk_144_83 (fun h => absurd h (by decide)) ?_
            first | exact ⟨rfl, rfl⟩ | omega
          · replace h5 : ¬ ((n : Int) < 0) := h5
            refine g_iload lk_144_59 rfl ?_
            refine g_iload lk_144_61 rfl ?_
            refine g_icmp (t := 70) lk_144_63 rfl (by first | (unfold pm_inI; omega) | exact pm_and_in _ _ | exact pm_shr_in _ _ | exact pm_or_in _ _ | exact pm_xor_in _ _ | exact pm_shl_in _ _ | exact pm_cmp_in _ _ | exact pm_b8_in _ | (unfold pm_inI; split <;> omega)) (by first | (unfold pm_inI; omega) | exact pm_and_in _ _ | exact pm_shr_in _ _ | exact pm_or_in _ _ | exact pm_xor_in _ _ | exact pm_shl_in _ _ | exact pm_cmp_in _ _ | exact pm_b8_in _ | (unfold pm_inI; split <;> omega)) (fun h6 => ?_) (fun h6 => ?_)
            · replace h6 : (n : Int) < (v : Int) := h6
              refine g_aload_n lk_144_70 rfl ?_
              refine g_getfield lk_144_71 rfl (lay.on (by decide) rfl) (v := ((26 : Nat) : Int)) (lay.rf rfl) ?_
              refine g_iload_n lk_144_74 rfl ?_
              refine g_aaload lk_144_75 (by decide) (lay.ay (by decide) rfl) (by omega) (v := ((P : Nat) : Int)) u2 ?_
              refine g_iload_n lk_144_76 rfl ?_
              refine g_iload_n lk_144_77 rfl ?_
              refine g_iload lk_144_78 rfl ?_
              refine g_virtual (p := P) (Qc := _) lk_144_80 rfl (Nat.le_of_ble_eq_true rfl) rfl rfl u1 (Nat.le_of_ble_eq_true rfl) (Nat.le_of_ble_eq_true rfl) (Nat.zero_le _) (Nat.zero_le _) (bn) ?_
              rintro _ N7 ⟨rfl, hN7⟩
              rw [hN7]
              show Wp _ 144 83 [(2, ((1 : Nat) : Int)), (0, (t : Int)), (0, (r : Int)), (0, (c : Int)), (0, (n : Int)), (0, (v : Int))] [(0, y)] M _ _ _
              refine g_ireturn lk_144_83 (fun h => absurd h (by decide)) ?_
              first | exact ⟨rfl, rfl⟩ | omega
            · replace h6 : ¬ ((n : Int) < (v : Int)) := h6
              refine g_iconst lk_144_66 ?_
              refine g_goto (t := 83) lk_144_67 rfl ?_
              refine g_ireturn lk_144_83 (fun h => absurd h (by decide)) ?_
              first | exact ⟨rfl, rfl⟩ | omega
        · replace h4 : ¬ (¬ (n : Int) = (-1)) := h4
          refine g_iload lk_144_51 rfl ?_
          refine g_ireturn lk_144_53 (fun h => absurd h (by decide)) ?_
          first | exact ⟨rfl, rfl⟩ | omega
      · rw [if_neg q2]
        refine g_aload_n lk_144_0 rfl ?_
        refine g_iload_n lk_144_1 rfl ?_
        refine g_virtual (p := 1) (Qc := _) lk_144_2 rfl (Nat.le_of_ble_eq_true rfl) rfl rfl (lay.on (by decide) rfl) (Nat.le_of_ble_eq_true rfl) (Nat.le_of_ble_eq_true rfl) (Nat.zero_le _) (Nat.zero_le _) (it) ?_
        rintro _ N1 ⟨rfl, hN1⟩
        rw [hN1]
        show Wp _ 144 5 [(2, ((1 : Nat) : Int)), (0, (t : Int)), (0, (r : Int)), (0, (c : Int)), (0, i), (9, 0)] [(0, 1)] M _ _ _
        refine g_if (t := 20) lk_144_5 rfl (by first | assumption | (unfold pm_inI; omega)) (fun h => absurd h (show ¬ ((1 : Int) = (0 : Int)) by omega)) (fun _ => ?_)
        refine g_aload_n lk_144_8 rfl ?_
        refine g_getfield lk_144_9 rfl (lay.on (by decide) rfl) (v := ((24 : Nat) : Int)) (lay.rf rfl) ?_
        refine g_iload_n lk_144_12 rfl ?_
        refine g_iload_n lk_144_13 rfl ?_
        refine g_virtual (p := 24) (Qc := _) lk_144_14 rfl (Nat.le_of_ble_eq_true rfl) rfl rfl (lay.on (by decide) rfl) (Nat.le_of_ble_eq_true rfl) (Nat.le_of_ble_eq_true rfl) (Nat.zero_le _) (Nat.zero_le _) (hs) ?_
        rintro _ N2 ⟨rfl, hN2⟩
        rw [hN2]
        show Wp _ 144 17 [(2, ((1 : Nat) : Int)), (0, (t : Int)), (0, (r : Int)), (0, (c : Int)), (0, i), (9, 0)] [(0, 1)] M _ _ _
        refine g_if (t := 22) lk_144_17 rfl (by first | assumption | (unfold pm_inI; omega)) (fun _ => ?_) (fun h => absurd (show ¬ (1 : Int) = (0 : Int) by omega) h)
        refine g_aload_n lk_144_22 rfl ?_
        refine g_getfield lk_144_23 rfl (lay.on (by decide) rfl) (v := ((26 : Nat) : Int)) (lay.rf rfl) ?_
        refine g_iload_n lk_144_26 rfl ?_
        refine g_aaload lk_144_27 (by decide) (lay.ay (by decide) rfl) (by omega) (v := ((P : Nat) : Int)) u2 ?_
        refine g_getfield lk_144_28 rfl u1 (v := ((E : Nat) : Int)) u7 ?_
        refine g_aload_n lk_144_31 rfl ?_
        refine g_getfield lk_144_32 rfl (lay.on (by decide) rfl) (v := ((26 : Nat) : Int)) (lay.rf rfl) ?_
        refine g_iload_n lk_144_35 rfl ?_
        refine g_aaload lk_144_36 (by decide) (lay.ay (by decide) rfl) (by omega) (v := ((P : Nat) : Int)) u2 ?_
        refine g_iload_n lk_144_37 rfl ?_
        refine g_iload_n lk_144_38 rfl ?_
        refine g_virtual (p := P) (Qc := _) lk_144_39 rfl (Nat.le_of_ble_eq_true rfl) rfl rfl u1 (Nat.le_of_ble_eq_true rfl) (Nat.le_of_ble_eq_true rfl) (Nat.zero_le _) (Nat.zero_le _) (lf) ?_
        rintro _ N3 ⟨rfl, hN3⟩
        rw [hN3]
        show Wp _ 144 42 [(2, ((1 : Nat) : Int)), (0, (t : Int)), (0, (r : Int)), (0, (c : Int)), (0, i), (9, 0)] [(0, (k : Int)), (2, ((E : Nat) : Int))] M _ _ _
        refine g_iaload lk_144_42 u11 (by omega) (v := (v : Int)) rd ?_
        refine g_istore (ls' := [(2, ((1 : Nat) : Int)), (0, (t : Int)), (0, (r : Int)), (0, (c : Int)), (0, i), (0, (v : Int))]) lk_144_43 rfl rfl ?_
        refine g_iload lk_144_45 rfl ?_
        refine g_iconst lk_144_47 ?_
        refine g_icmp (t := 54) lk_144_48 rfl (by first | assumption | (unfold pm_inI; omega)) (by first | assumption | (unfold pm_inI; omega)) (fun h4 => ?_) (fun h4 => ?_)
        · replace h4 : ¬ i = (-1) := h4
          refine g_iload lk_144_54 rfl ?_
          refine g_if (t := 66) lk_144_56 rfl (by first | assumption | (unfold pm_inI; omega)) (fun h5 => ?_) (fun h5 => ?_)
          · replace h5 : i < 0 := h5
            refine g_iconst lk_144_66 ?_
            refine g_goto (t := 83) lk_144_67 rfl ?_
            refine g_ireturn lk_144_83 (fun h => absurd h (by decide)) ?_
            first | exact ⟨rfl, rfl⟩ | omega
          · replace h5 : ¬ (i < 0) := h5
            refine g_iload lk_144_59 rfl ?_
            refine g_iload lk_144_61 rfl ?_
            refine g_icmp (t := 70) lk_144_63 rfl (by first | assumption | (unfold pm_inI; omega)) (by first | assumption | (unfold pm_inI; omega)) (fun h6 => ?_) (fun h6 => ?_)
            · replace h6 : i < (v : Int) := h6
              omega
            · replace h6 : ¬ (i < (v : Int)) := h6
              refine g_iconst lk_144_66 ?_
              refine g_goto (t := 83) lk_144_67 rfl ?_
              refine g_ireturn lk_144_83 (fun h => absurd h (by decide)) ?_
              first | exact ⟨rfl, rfl⟩ | omega
        · replace h4 : ¬ (¬ i = (-1)) := h4
          refine g_iload lk_144_51 rfl ?_
          refine g_ireturn lk_144_53 (fun h => absurd h (by decide)) ?_
          first | exact ⟨rfl, rfl⟩ | omega
    · rw [if_neg e2] at hs
      have es : sBit T Ts t r c i = -1 := by unfold sBit; rw [if_neg (fun q => e2 q.2)]
      rw [es]
      refine g_aload_n lk_144_0 rfl ?_
      refine g_iload_n lk_144_1 rfl ?_
      refine g_virtual (p := 1) (Qc := _) lk_144_2 rfl (Nat.le_of_ble_eq_true rfl) rfl rfl (lay.on (by decide) rfl) (Nat.le_of_ble_eq_true rfl) (Nat.le_of_ble_eq_true rfl) (Nat.zero_le _) (Nat.zero_le _) (it) ?_
      rintro _ N1 ⟨rfl, hN1⟩
      rw [hN1]
      show Wp _ 144 5 [(2, ((1 : Nat) : Int)), (0, t), (0, r), (0, c), (0, i), (9, 0)] [(0, 1)] M _ _ _
      refine g_if (t := 20) lk_144_5 rfl (by first | (unfold pm_inI; omega) | exact pm_and_in _ _ | exact pm_shr_in _ _ | exact pm_or_in _ _ | exact pm_xor_in _ _ | exact pm_shl_in _ _ | exact pm_cmp_in _ _ | exact pm_b8_in _ | (unfold pm_inI; split <;> omega)) (fun h => absurd h (show ¬ ((1 : Int) = (0 : Int)) by omega)) (fun _ => ?_)
      refine g_aload_n lk_144_8 rfl ?_
      refine g_getfield lk_144_9 rfl (lay.on (by decide) rfl) (v := ((24 : Nat) : Int)) (lay.rf rfl) ?_
      refine g_iload_n lk_144_12 rfl ?_
      refine g_iload_n lk_144_13 rfl ?_
      refine g_virtual (p := 24) (Qc := _) lk_144_14 rfl (Nat.le_of_ble_eq_true rfl) rfl rfl (lay.on (by decide) rfl) (Nat.le_of_ble_eq_true rfl) (Nat.le_of_ble_eq_true rfl) (Nat.zero_le _) (Nat.zero_le _) (hs) ?_
      rintro _ N2 ⟨rfl, hN2⟩
      rw [hN2]
      show Wp _ 144 17 [(2, ((1 : Nat) : Int)), (0, t), (0, r), (0, c), (0, i), (9, 0)] [(0, 0)] M _ _ _
      refine g_if (t := 22) lk_144_17 rfl (by first | (unfold pm_inI; omega) | exact pm_and_in _ _ | exact pm_shr_in _ _ | exact pm_or_in _ _ | exact pm_xor_in _ _ | exact pm_shl_in _ _ | exact pm_cmp_in _ _ | exact pm_b8_in _ | (unfold pm_inI; split <;> omega)) (fun h => absurd h (show ¬ (¬ (0 : Int) = (0 : Int)) by omega)) (fun _ => ?_)
      refine g_iconst lk_144_20 ?_
      refine g_ireturn lk_144_21 (fun h => absurd h (by decide)) ?_
      exact ⟨rfl, rfl⟩
  · rw [if_neg e1] at it
    have es : sBit T Ts t r c i = -1 := by unfold sBit; rw [if_neg (fun q => e1 q.1)]
    rw [es]
    refine g_aload_n lk_144_0 rfl ?_
    refine g_iload_n lk_144_1 rfl ?_
    refine g_virtual (p := 1) (Qc := _) lk_144_2 rfl (Nat.le_of_ble_eq_true rfl) rfl rfl (lay.on (by decide) rfl) (Nat.le_of_ble_eq_true rfl) (Nat.le_of_ble_eq_true rfl) (Nat.zero_le _) (Nat.zero_le _) (it) ?_
    rintro _ N1 ⟨rfl, hN1⟩
    rw [hN1]
    show Wp _ 144 5 [(2, ((1 : Nat) : Int)), (0, t), (0, r), (0, c), (0, i), (9, 0)] [(0, 0)] M _ _ _
    refine g_if (t := 20) lk_144_5 rfl (by first | (unfold pm_inI; omega) | exact pm_and_in _ _ | exact pm_shr_in _ _ | exact pm_or_in _ _ | exact pm_xor_in _ _ | exact pm_shl_in _ _ | exact pm_cmp_in _ _ | exact pm_b8_in _ | (unfold pm_inI; split <;> omega)) (fun _ => ?_) (fun h => absurd (show (0 : Int) = (0 : Int) by omega) h)
    refine g_iconst lk_144_20 ?_
    refine g_ireturn lk_144_21 (fun h => absurd h (by decide)) ?_
    exact ⟨rfl, rfl⟩
theorem c_X_tree {d mc ms : Nat} {M : pm_M} (lay : Lay M) {T : Tab} (hT : TabOK T) (hM : TbAt M 24 T) {Ts : List (List Nd)} {ps dps : Nat → Nat → Nat} (hTs : TsX M T Ts ps dps) {t w : Int} (ht : pm_inI t) (hw : pm_inI w) :
    pm_E (d + 6) 145 [(2, ((1 : Nat) : Int)), (0, t), (0, w)] M mc ms (fun ρ M' => ρ = some (0, sTree T Ts ps t w) ∧ M' = M) := by
  have it := c_X_isTree (d := d + 5) (mc := 0) (ms := 0) lay hTs.at ht
  show Wp (d + 6) 145 0 [(2, ((1 : Nat) : Int)), (0, t), (0, w)] [] M mc ms _
  by_cases e1 : 0 ≤ t ∧ t < (Ts.length : Int)
  · rw [if_pos e1] at it
    have l4 := hTs.1
    unfold sTree
    rw [if_pos e1]
    obtain ⟨t, rfl⟩ := Int.eq_ofNat_of_zero_le e1.1
    rw [Int.toNat_natCast]
    have td := hTs.2.2 t (by omega)
    obtain ⟨u1, u2, u3, u4, u5, u6, u7, u8, u9, u10, u11, u12⟩ := td_l lay (t := t) (by omega)
    have a1 := c_Told_leafCount (d := d + 5) (mc := 0) (ms := 0) lay hT (t := t) (by omega) td
    have a2 := c_Told_worstCost (d := d + 3) (mc := 0) (ms := 0) lay hT (t := t) (by omega) td
    have a3 := c_Told_sumOfCosts (d := d) (mc := 0) (ms := 0) lay hT hM (t := t) (by omega) td
    have a4 := c_Told_wrongAbove (d := d + 1) (mc := 0) (ms := 0) lay hT hM (t := t) (by omega) td (g := 9) (by omega)
    have a5 := c_Told_idleCount (d := d + 4) (mc := 0) (ms := 0) lay hT (t := t) (by omega) td
    have a6 := c_Told_mostTurns (d := d + 3) (mc := 0) (ms := 0) lay hT (t := t) (by omega) td
    have ct := td.2.1
    obtain ⟨L, hL⟩ : ∃ L, L = Ts.getD t [] := ⟨_, rfl⟩
    rw [← hL] at a1 a2 a3 a4 a5 a6 ct ⊢
    obtain ⟨P, hP⟩ : ∃ P, P = 54 + 11 * t := ⟨_, rfl⟩
    obtain ⟨E, hE⟩ : ∃ E, E = 55 + 11 * t := ⟨_, rfl⟩
    rw [show 54 + 11 * t + 1 = E by omega] at ct
    rw [← hP] at u1 u2 u4 a1 a2 a3 a4 a5 a6
    rw [← hE] at u3 u4
    refine g_aload_n lk_145_0 rfl ?_
    refine g_iload_n lk_145_1 rfl ?_
    refine g_virtual (p := 1) (Qc := _) lk_145_2 rfl (Nat.le_of_ble_eq_true rfl) rfl rfl (lay.on (by decide) rfl) (Nat.le_of_ble_eq_true rfl) (Nat.le_of_ble_eq_true rfl) (Nat.zero_le _) (Nat.zero_le _) (it) ?_
    rintro _ N1 ⟨rfl, hN1⟩
    rw [hN1]
    show Wp _ 145 5 [(2, ((1 : Nat) : Int)), (0, (t : Int)), (0, w)] [(0, 1)] M _ _ _
    refine g_if (t := 10) lk_145_5 rfl (by first | assumption | (unfold pm_inI; omega)) (fun _ => ?_) (fun h => absurd (show ¬ (1 : Int) = (0 : Int) by omega) h)
    refine g_iload_n lk_145_10 rfl ?_
    refine g_tsw lk_145_11 (by first | assumption | (unfold pm_inI; omega)) (And.intro (fun h2 => ?_) (fun h2 => (And.intro (fun h3 => ?_) (fun h3 => (And.intro (fun h4 => ?_) (fun h4 => (And.intro (fun h5 => ?_) (fun h5 => (And.intro (fun h6 => ?_) (fun h6 => (And.intro (fun h7 => ?_) (fun h7 => (And.intro (fun h8 => ?_) (fun h8 => ?_))))))))))))))
    · replace h2 : w = 0 := h2
      show Wp _ 145 52 [(2, ((1 : Nat) : Int)), (0, (t : Int)), (0, w)] [] M _ _ _
      refine g_aload_n lk_145_52 rfl ?_
      refine g_getfield lk_145_53 rfl (lay.on (by decide) rfl) (v := ((26 : Nat) : Int)) (lay.rf rfl) ?_
      refine g_iload_n lk_145_56 rfl ?_
      refine g_aaload lk_145_57 (by decide) (lay.ay (by decide) rfl) (by omega) (v := ((P : Nat) : Int)) u2 ?_
      refine g_getfield lk_145_58 rfl u1 (v := ((E : Nat) : Int)) u4 ?_
      refine g_getfield lk_145_61 rfl u3 (v := (L.length : Int)) ct ?_
      refine g_ireturn lk_145_64 (fun h => absurd h (by decide)) ?_
      exact ⟨by rw [if_pos (by omega)], rfl⟩
    · replace h3 : w = 1 := h3
      show Wp _ 145 65 [(2, ((1 : Nat) : Int)), (0, (t : Int)), (0, w)] [] M _ _ _
      refine g_aload_n lk_145_65 rfl ?_
      refine g_getfield lk_145_66 rfl (lay.on (by decide) rfl) (v := ((26 : Nat) : Int)) (lay.rf rfl) ?_
      refine g_iload_n lk_145_69 rfl ?_
      refine g_aaload lk_145_70 (by decide) (lay.ay (by decide) rfl) (by omega) (v := ((P : Nat) : Int)) u2 ?_
      refine g_virtual (p := P) (Qc := _) lk_145_71 rfl (Nat.le_of_ble_eq_true rfl) rfl rfl u1 (Nat.le_of_ble_eq_true rfl) (Nat.le_of_ble_eq_true rfl) (Nat.zero_le _) (Nat.zero_le _) (a1) ?_
      rintro _ N10 ⟨rfl, hN10⟩
      rw [hN10]
      show Wp _ 145 74 [(2, ((1 : Nat) : Int)), (0, (t : Int)), (0, w)] [(0, (tLf L : Int))] M _ _ _
      refine g_ireturn lk_145_74 (fun h => absurd h (by decide)) ?_
      exact ⟨by rw [if_neg (by omega), if_pos (by omega)], rfl⟩
    · replace h4 : w = 2 := h4
      show Wp _ 145 75 [(2, ((1 : Nat) : Int)), (0, (t : Int)), (0, w)] [] M _ _ _
      refine g_aload_n lk_145_75 rfl ?_
      refine g_getfield lk_145_76 rfl (lay.on (by decide) rfl) (v := ((26 : Nat) : Int)) (lay.rf rfl) ?_
      refine g_iload_n lk_145_79 rfl ?_
      refine g_aaload lk_145_80 (by decide) (lay.ay (by decide) rfl) (by omega) (v := ((P : Nat) : Int)) u2 ?_
      refine g_virtual (p := P) (Qc := _) lk_145_81 rfl (Nat.le_of_ble_eq_true rfl) rfl rfl u1 (Nat.le_of_ble_eq_true rfl) (Nat.le_of_ble_eq_true rfl) (Nat.zero_le _) (Nat.zero_le _) (a2) ?_
      rintro _ N11 ⟨rfl, hN11⟩
      rw [hN11]
      show Wp _ 145 84 [(2, ((1 : Nat) : Int)), (0, (t : Int)), (0, w)] [(0, (x2 T (fun r c => wc T L r c 9 0) : Int))] M _ _ _
      refine g_ireturn lk_145_84 (fun h => absurd h (by decide)) ?_
      exact ⟨by rw [if_neg (by omega), if_neg (by omega), if_pos (by omega)], rfl⟩
    · replace h5 : w = 3 := h5
      show Wp _ 145 85 [(2, ((1 : Nat) : Int)), (0, (t : Int)), (0, w)] [] M _ _ _
      refine g_aload_n lk_145_85 rfl ?_
      refine g_getfield lk_145_86 rfl (lay.on (by decide) rfl) (v := ((26 : Nat) : Int)) (lay.rf rfl) ?_
      refine g_iload_n lk_145_89 rfl ?_
      refine g_aaload lk_145_90 (by decide) (lay.ay (by decide) rfl) (by omega) (v := ((P : Nat) : Int)) u2 ?_
      refine g_aload_n lk_145_91 rfl ?_
      refine g_getfield lk_145_92 rfl (lay.on (by decide) rfl) (v := ((24 : Nat) : Int)) (lay.rf rfl) ?_
      refine g_virtual (p := P) (Qc := _) lk_145_95 rfl (Nat.le_of_ble_eq_true rfl) rfl rfl u1 (Nat.le_of_ble_eq_true rfl) (Nat.le_of_ble_eq_true rfl) (Nat.zero_le _) (Nat.zero_le _) (a3) ?_
      rintro _ N12 ⟨rfl, hN12⟩
      rw [hN12]
      show Wp _ 145 98 [(2, ((1 : Nat) : Int)), (0, (t : Int)), (0, w)] [(0, (tSum T L : Int))] M _ _ _
      refine g_ireturn lk_145_98 (fun h => absurd h (by decide)) ?_
      exact ⟨by rw [if_neg (by omega), if_neg (by omega), if_neg (by omega), if_pos (by omega)], rfl⟩
    · replace h6 : w = 4 := h6
      show Wp _ 145 99 [(2, ((1 : Nat) : Int)), (0, (t : Int)), (0, w)] [] M _ _ _
      refine g_aload_n lk_145_99 rfl ?_
      refine g_getfield lk_145_100 rfl (lay.on (by decide) rfl) (v := ((26 : Nat) : Int)) (lay.rf rfl) ?_
      refine g_iload_n lk_145_103 rfl ?_
      refine g_aaload lk_145_104 (by decide) (lay.ay (by decide) rfl) (by omega) (v := ((P : Nat) : Int)) u2 ?_
      refine g_aload_n lk_145_105 rfl ?_
      refine g_getfield lk_145_106 rfl (lay.on (by decide) rfl) (v := ((24 : Nat) : Int)) (lay.rf rfl) ?_
      refine g_bipush lk_145_109 ?_
      refine g_virtual (p := P) (Qc := _) lk_145_111 rfl (Nat.le_of_ble_eq_true rfl) rfl rfl u1 (Nat.le_of_ble_eq_true rfl) (Nat.le_of_ble_eq_true rfl) (Nat.zero_le _) (Nat.zero_le _) (a4) ?_
      rintro _ N13 ⟨rfl, hN13⟩
      rw [hN13]
      show Wp _ 145 114 [(2, ((1 : Nat) : Int)), (0, (t : Int)), (0, w)] [(0, (tWro T L 9 : Int))] M _ _ _
      refine g_ireturn lk_145_114 (fun h => absurd h (by decide)) ?_
      exact ⟨by rw [if_neg (by omega), if_neg (by omega), if_neg (by omega), if_neg (by omega), if_pos (by omega)], rfl⟩
    · replace h7 : w = 5 := h7
      show Wp _ 145 115 [(2, ((1 : Nat) : Int)), (0, (t : Int)), (0, w)] [] M _ _ _
      refine g_aload_n lk_145_115 rfl ?_
      refine g_getfield lk_145_116 rfl (lay.on (by decide) rfl) (v := ((26 : Nat) : Int)) (lay.rf rfl) ?_
      refine g_iload_n lk_145_119 rfl ?_
      refine g_aaload lk_145_120 (by decide) (lay.ay (by decide) rfl) (by omega) (v := ((P : Nat) : Int)) u2 ?_
      refine g_virtual (p := P) (Qc := _) lk_145_121 rfl (Nat.le_of_ble_eq_true rfl) rfl rfl u1 (Nat.le_of_ble_eq_true rfl) (Nat.le_of_ble_eq_true rfl) (Nat.zero_le _) (Nat.zero_le _) (a5) ?_
      rintro _ N14 ⟨rfl, hN14⟩
      rw [hN14]
      show Wp _ 145 124 [(2, ((1 : Nat) : Int)), (0, (t : Int)), (0, w)] [(0, (tId T L (ps t) : Int))] M _ _ _
      refine g_ireturn lk_145_124 (fun h => absurd h (by decide)) ?_
      exact ⟨by rw [if_neg (by omega), if_neg (by omega), if_neg (by omega), if_neg (by omega), if_neg (by omega), if_pos (by omega)], rfl⟩
    · replace h8 : w = 6 := h8
      show Wp _ 145 125 [(2, ((1 : Nat) : Int)), (0, (t : Int)), (0, w)] [] M _ _ _
      refine g_aload_n lk_145_125 rfl ?_
      refine g_getfield lk_145_126 rfl (lay.on (by decide) rfl) (v := ((26 : Nat) : Int)) (lay.rf rfl) ?_
      refine g_iload_n lk_145_129 rfl ?_
      refine g_aaload lk_145_130 (by decide) (lay.ay (by decide) rfl) (by omega) (v := ((P : Nat) : Int)) u2 ?_
      refine g_virtual (p := P) (Qc := _) lk_145_131 rfl (Nat.le_of_ble_eq_true rfl) rfl rfl u1 (Nat.le_of_ble_eq_true rfl) (Nat.le_of_ble_eq_true rfl) (Nat.zero_le _) (Nat.zero_le _) (a6) ?_
      rintro _ N15 ⟨rfl, hN15⟩
      rw [hN15]
      show Wp _ 145 134 [(2, ((1 : Nat) : Int)), (0, (t : Int)), (0, w)] [(0, (x2 T (fun r c => wt L r c 9 0 0) : Int))] M _ _ _
      refine g_ireturn lk_145_134 (fun h => absurd h (by decide)) ?_
      exact ⟨by rw [if_neg (by omega), if_neg (by omega), if_neg (by omega), if_neg (by omega), if_neg (by omega), if_neg (by omega), if_pos (by omega)], rfl⟩
    · show Wp _ 145 135 [(2, ((1 : Nat) : Int)), (0, (t : Int)), (0, w)] [] M _ _ _
      replace h2 : ¬ w = 0 := h2
      replace h3 : ¬ w = 1 := h3
      replace h4 : ¬ w = 2 := h4
      replace h5 : ¬ w = 3 := h5
      replace h6 : ¬ w = 4 := h6
      replace h7 : ¬ w = 5 := h7
      replace h8 : ¬ w = 6 := h8
      refine g_iconst lk_145_135 ?_
      refine g_ireturn lk_145_136 (fun h => absurd h (by decide)) ?_
      exact ⟨by rw [if_neg (by omega), if_neg (by omega), if_neg (by omega), if_neg (by omega), if_neg (by omega), if_neg (by omega), if_neg (by omega)], rfl⟩
  · rw [if_neg e1] at it
    have es : sTree T Ts ps t w = -1 := by unfold sTree; rw [if_neg e1]
    rw [es]
    refine g_aload_n lk_145_0 rfl ?_
    refine g_iload_n lk_145_1 rfl ?_
    refine g_virtual (p := 1) (Qc := _) lk_145_2 rfl (Nat.le_of_ble_eq_true rfl) rfl rfl (lay.on (by decide) rfl) (Nat.le_of_ble_eq_true rfl) (Nat.le_of_ble_eq_true rfl) (Nat.zero_le _) (Nat.zero_le _) (it) ?_
    rintro _ N1 ⟨rfl, hN1⟩
    rw [hN1]
    show Wp _ 145 5 [(2, ((1 : Nat) : Int)), (0, t), (0, w)] [(0, 0)] M _ _ _
    refine g_if (t := 10) lk_145_5 rfl (by first | (unfold pm_inI; omega) | exact pm_and_in _ _ | exact pm_shr_in _ _ | exact pm_or_in _ _ | exact pm_xor_in _ _ | exact pm_shl_in _ _ | exact pm_cmp_in _ _ | exact pm_b8_in _ | (unfold pm_inI; split <;> omega)) (fun h => absurd h (show ¬ (¬ (0 : Int) = (0 : Int)) by omega)) (fun _ => ?_)
    refine g_iconst lk_145_8 ?_
    refine g_ireturn lk_145_9 (fun h => absurd h (by decide)) ?_
    exact ⟨rfl, rfl⟩
theorem c_X_told {d mc ms : Nat} {M : pm_M} (lay : Lay M) {T : Tab} (hT : TabOK T) {Ts : List (List Nd)} {ps dps : Nat → Nat → Nat} (hTs : TsX M T Ts ps dps) {t k w : Int} (ht : pm_inI t) (hk : pm_inI k) (hw : pm_inI w) :
    pm_E (d + 2) 146 [(2, ((1 : Nat) : Int)), (0, t), (0, k), (0, w)] M mc ms (fun ρ M' => ρ = some (0, sTold T Ts ps t k w) ∧ M' = M) := by
  have it := c_X_isTree (d := d + 1) (mc := 0) (ms := 0) lay hTs.at ht
  show Wp (d + 2) 146 0 [(2, ((1 : Nat) : Int)), (0, t), (0, k), (0, w)] [] M mc ms _
  by_cases e1 : 0 ≤ t ∧ t < (Ts.length : Int)
  · rw [if_pos e1] at it
    have l4 := hTs.1
    have e1' := e1
    obtain ⟨t, rfl⟩ := Int.eq_ofNat_of_zero_le e1.1
    have es : sTold T Ts ps (t : Int) k w = if inTs Ts (t : Int) ∧ (0 ≤ k ∧ k < ((Ts.getD t []).length : Int)) then tdOf T (Ts.getD t []) (ps t) k w else -1 := rfl
    rw [es]
    have td := hTs.2.2 t (by omega)
    obtain ⟨u1, u2, u3, u4, u5, u6, u7, u8, u9, u10, u11, u12⟩ := td_l lay (t := t) (by omega)
    have tn := c_Nodes_tellT (d := d + 1) (mc := 0) (ms := 0) lay (t := t) (by omega) td hk hw
    have ii := fun n h => c_Told_isIdle (d := d + 1) (mc := 0) (ms := 0) lay hT (t := t) (by omega) td (k := n) h
    have ct := td.2.1
    have l31 := td.1.1.2.1
    have rd := td.2.2.2
    unfold CmAt at rd
    obtain ⟨L, hL⟩ : ∃ L, L = Ts.getD t [] := ⟨_, rfl⟩
    rw [← hL] at tn ii ct l31 rd ⊢
    obtain ⟨l, hl⟩ : ∃ l, l = L.length := ⟨_, rfl⟩
    rw [← hl] at ct l31 ii rd ⊢
    obtain ⟨P, hP⟩ : ∃ P, P = 54 + 11 * t := ⟨_, rfl⟩
    obtain ⟨E, hE⟩ : ∃ E, E = 55 + 11 * t := ⟨_, rfl⟩
    obtain ⟨R, hR⟩ : ∃ E, E = 59 + 11 * t := ⟨_, rfl⟩
    obtain ⟨C, hC⟩ : ∃ E, E = 60 + 11 * t := ⟨_, rfl⟩
    rw [show 54 + 11 * t + 1 = E by omega] at ct
    rw [show 54 + 11 * t + 5 = R by omega, show 54 + 11 * t + 6 = C by omega] at rd
    rw [← hP] at u1 u2 u4 u5 u6 ii
    rw [← hE] at u3 u4 tn
    rw [← hR] at u5 u9
    rw [← hC] at u6 u10
    by_cases e2 : 0 ≤ k ∧ k < (l : Int)
    · rw [if_pos ⟨e1', e2⟩]
      obtain ⟨n, rfl⟩ := Int.eq_ofNat_of_zero_le e2.1
      have ed : tdOf T L (ps t) (n : Int) w = if w = 3 then (if idl (CM T L (ps t) n) then 0 else ((CM T L (ps t) n).1 : Int)) else if w = 4 then (if idl (CM T L (ps t) n) then 0 else ((CM T L (ps t) n).2.1 : Int)) else ndOf L (n : Int) w := rfl
      rw [ed]
      obtain ⟨rd1, rd2, _⟩ := rd n (by omega)
      have iin := ii n (by omega)
      clear ii rd
      obtain ⟨e, he⟩ : ∃ e, e = CM T L (ps t) n := ⟨_, rfl⟩
      rw [← he] at rd1 rd2 iin ⊢
      by_cases q : idl e
      · rw [if_pos q, if_pos q]
        rw [if_pos q] at iin
        refine g_aload_n lk_146_0 rfl ?_
        refine g_iload_n lk_146_1 rfl ?_
        refine g_virtual (p := 1) (Qc := _) lk_146_2 rfl (Nat.le_of_ble_eq_true rfl) rfl rfl (lay.on (by decide) rfl) (Nat.le_of_ble_eq_true rfl) (Nat.le_of_ble_eq_true rfl) (Nat.zero_le _) (Nat.zero_le _) (it) ?_
        rintro _ N1 ⟨rfl, hN1⟩
        rw [hN1]
        show Wp _ 146 5 [(2, ((1 : Nat) : Int)), (0, (t : Int)), (0, (n : Int)), (0, w)] [(0, 1)] M _ _ _
        refine g_if (t := 28) lk_146_5 rfl (by first | assumption | (unfold pm_inI; omega)) (fun h => absurd h (show ¬ ((1 : Int) = (0 : Int)) by omega)) (fun _ => ?_)
        refine g_iload_n lk_146_8 rfl ?_
        refine g_if (t := 28) lk_146_9 rfl (by first | assumption | (unfold pm_inI; omega)) (fun h2 => ?_) (fun h2 => ?_)
        · replace h2 : (n : Int) < 0 := h2
          omega
        · replace h2 : ¬ ((n : Int) < 0) := h2
          refine g_iload_n lk_146_12 rfl ?_
          refine g_aload_n lk_146_13 rfl ?_
          refine g_getfield lk_146_14 rfl (lay.on (by decide) rfl) (v := ((26 : Nat) : Int)) (lay.rf rfl) ?_
          refine g_iload_n lk_146_17 rfl ?_
          refine g_aaload lk_146_18 (by decide) (lay.ay (by decide) rfl) (by omega) (v := ((P : Nat) : Int)) u2 ?_
          refine g_getfield lk_146_19 rfl u1 (v := ((E : Nat) : Int)) u4 ?_
          refine g_getfield lk_146_22 rfl u3 (v := (l : Int)) ct ?_
          refine g_icmp (t := 30) lk_146_25 rfl (by first | assumption | (unfold pm_inI; omega)) (by first | assumption | (unfold pm_inI; omega)) (fun h3 => ?_) (fun h3 => ?_)
          · replace h3 : (n : Int) < (l : Int) := h3
            refine g_iload_n lk_146_30 rfl ?_
            refine g_lsw lk_146_31 (by first | assumption | (unfold pm_inI; omega)) (And.intro (fun h4 => ?_) (fun h4 => (And.intro (fun h5 => ?_) (fun h5 => ?_))))
            · replace h4 : w = 3 := h4
              show Wp _ 146 56 [(2, ((1 : Nat) : Int)), (0, (t : Int)), (0, (n : Int)), (0, w)] [] M _ _ _
              refine g_aload_n lk_146_56 rfl ?_
              refine g_getfield lk_146_57 rfl (lay.on (by decide) rfl) (v := ((26 : Nat) : Int)) (lay.rf rfl) ?_
              refine g_iload_n lk_146_60 rfl ?_
              refine g_aaload lk_146_61 (by decide) (lay.ay (by decide) rfl) (by omega) (v := ((P : Nat) : Int)) u2 ?_
              refine g_iload_n lk_146_62 rfl ?_
              refine g_virtual (p := P) (Qc := _) lk_146_63 rfl (Nat.le_of_ble_eq_true rfl) rfl rfl u1 (Nat.le_of_ble_eq_true rfl) (Nat.le_of_ble_eq_true rfl) (Nat.zero_le _) (Nat.zero_le _) (iin) ?_
              rintro _ N7 ⟨rfl, hN7⟩
              rw [hN7]
              show Wp _ 146 66 [(2, ((1 : Nat) : Int)), (0, (t : Int)), (0, (n : Int)), (0, w)] [(0, 1)] M _ _ _
              refine g_if (t := 73) lk_146_66 rfl (by first | assumption | (unfold pm_inI; omega)) (fun h => absurd h (show ¬ ((1 : Int) = (0 : Int)) by omega)) (fun _ => ?_)
              refine g_iconst lk_146_69 ?_
              refine g_goto (t := 84) lk_146_70 rfl ?_
              refine g_ireturn lk_146_84 (fun h => absurd h (by decide)) ?_
              exact ⟨by rw [if_pos (by omega)], rfl⟩
            · replace h5 : w = 4 := h5
              show Wp _ 146 85 [(2, ((1 : Nat) : Int)), (0, (t : Int)), (0, (n : Int)), (0, w)] [] M _ _ _
              refine g_aload_n lk_146_85 rfl ?_
              refine g_getfield lk_146_86 rfl (lay.on (by decide) rfl) (v := ((26 : Nat) : Int)) (lay.rf rfl) ?_
              refine g_iload_n lk_146_89 rfl ?_
              refine g_aaload lk_146_90 (by decide) (lay.ay (by decide) rfl) (by omega) (v := ((P : Nat) : Int)) u2 ?_
              refine g_iload_n lk_146_91 rfl ?_
              refine g_virtual (p := P) (Qc := _) lk_146_92 rfl (Nat.le_of_ble_eq_true rfl) rfl rfl u1 (Nat.le_of_ble_eq_true rfl) (Nat.le_of_ble_eq_true rfl) (Nat.zero_le _) (Nat.zero_le _) (iin) ?_
              rintro _ N8 ⟨rfl, hN8⟩
              rw [hN8]
              show Wp _ 146 95 [(2, ((1 : Nat) : Int)), (0, (t : Int)), (0, (n : Int)), (0, w)] [(0, 1)] M _ _ _
              refine g_if (t := 102) lk_146_95 rfl (by first | assumption | (unfold pm_inI; omega)) (fun h => absurd h (show ¬ ((1 : Int) = (0 : Int)) by omega)) (fun _ => ?_)
              refine g_iconst lk_146_98 ?_
              refine g_goto (t := 113) lk_146_99 rfl ?_
              refine g_ireturn lk_146_113 (fun h => absurd h (by decide)) ?_
              exact ⟨by rw [if_neg (by omega), if_pos (by omega)], rfl⟩
            · show Wp _ 146 114 [(2, ((1 : Nat) : Int)), (0, (t : Int)), (0, (n : Int)), (0, w)] [] M _ _ _
              replace h4 : ¬ w = 3 := h4
              replace h5 : ¬ w = 4 := h5
              refine g_aload_n lk_146_114 rfl ?_
              refine g_getfield lk_146_115 rfl (lay.on (by decide) rfl) (v := ((26 : Nat) : Int)) (lay.rf rfl) ?_
              refine g_iload_n lk_146_118 rfl ?_
              refine g_aaload lk_146_119 (by decide) (lay.ay (by decide) rfl) (by omega) (v := ((P : Nat) : Int)) u2 ?_
              refine g_getfield lk_146_120 rfl u1 (v := ((E : Nat) : Int)) u4 ?_
              refine g_iload_n lk_146_123 rfl ?_
              refine g_iload_n lk_146_124 rfl ?_
              refine g_virtual (p := E) (Qc := _) lk_146_125 rfl (Nat.le_of_ble_eq_true rfl) rfl rfl u3 (Nat.le_of_ble_eq_true rfl) (Nat.le_of_ble_eq_true rfl) (Nat.zero_le _) (Nat.zero_le _) (tn) ?_
              rintro _ N9 ⟨rfl, hN9⟩
              rw [hN9]
              show Wp _ 146 128 [(2, ((1 : Nat) : Int)), (0, (t : Int)), (0, (n : Int)), (0, w)] [(0, (ndOf L (n : Int) w))] M _ _ _
              refine g_ireturn lk_146_128 (fun h => absurd h (by decide)) ?_
              exact ⟨by rw [if_neg (by omega), if_neg (by omega)], rfl⟩
          · replace h3 : ¬ ((n : Int) < (l : Int)) := h3
            omega
      · rw [if_neg q, if_neg q]
        rw [if_neg q] at iin
        refine g_aload_n lk_146_0 rfl ?_
        refine g_iload_n lk_146_1 rfl ?_
        refine g_virtual (p := 1) (Qc := _) lk_146_2 rfl (Nat.le_of_ble_eq_true rfl) rfl rfl (lay.on (by decide) rfl) (Nat.le_of_ble_eq_true rfl) (Nat.le_of_ble_eq_true rfl) (Nat.zero_le _) (Nat.zero_le _) (it) ?_
        rintro _ N1 ⟨rfl, hN1⟩
        rw [hN1]
        show Wp _ 146 5 [(2, ((1 : Nat) : Int)), (0, (t : Int)), (0, (n : Int)), (0, w)] [(0, 1)] M _ _ _
        refine g_if (t := 28) lk_146_5 rfl (by first | assumption | (unfold pm_inI; omega)) (fun h => absurd h (show ¬ ((1 : Int) = (0 : Int)) by omega)) (fun _ => ?_)
        refine g_iload_n lk_146_8 rfl ?_
        refine g_if (t := 28) lk_146_9 rfl (by first | assumption | (unfold pm_inI; omega)) (fun h2 => ?_) (fun h2 => ?_)
        · replace h2 : (n : Int) < 0 := h2
          omega
        · replace h2 : ¬ ((n : Int) < 0) := h2
          refine g_iload_n lk_146_12 rfl ?_
          refine g_aload_n lk_146_13 rfl ?_
          refine g_getfield lk_146_14 rfl (lay.on (by decide) rfl) (v := ((26 : Nat) : Int)) (lay.rf rfl) ?_
          refine g_iload_n lk_146_17 rfl ?_
          refine g_aaload lk_146_18 (by decide) (lay.ay (by decide) rfl) (by omega) (v := ((P : Nat) : Int)) u2 ?_
          refine g_getfield lk_146_19 rfl u1 (v := ((E : Nat) : Int)) u4 ?_
          refine g_getfield lk_146_22 rfl u3 (v := (l : Int)) ct ?_
          refine g_icmp (t := 30) lk_146_25 rfl (by first | assumption | (unfold pm_inI; omega)) (by first | assumption | (unfold pm_inI; omega)) (fun h3 => ?_) (fun h3 => ?_)
          · replace h3 : (n : Int) < (l : Int) := h3
            refine g_iload_n lk_146_30 rfl ?_
            refine g_lsw lk_146_31 (by first | assumption | (unfold pm_inI; omega)) (And.intro (fun h4 => ?_) (fun h4 => (And.intro (fun h5 => ?_) (fun h5 => ?_))))
            · replace h4 : w = 3 := h4
              show Wp _ 146 56 [(2, ((1 : Nat) : Int)), (0, (t : Int)), (0, (n : Int)), (0, w)] [] M _ _ _
              refine g_aload_n lk_146_56 rfl ?_
              refine g_getfield lk_146_57 rfl (lay.on (by decide) rfl) (v := ((26 : Nat) : Int)) (lay.rf rfl) ?_
              refine g_iload_n lk_146_60 rfl ?_
              refine g_aaload lk_146_61 (by decide) (lay.ay (by decide) rfl) (by omega) (v := ((P : Nat) : Int)) u2 ?_
              refine g_iload_n lk_146_62 rfl ?_
              refine g_virtual (p := P) (Qc := _) lk_146_63 rfl (Nat.le_of_ble_eq_true rfl) rfl rfl u1 (Nat.le_of_ble_eq_true rfl) (Nat.le_of_ble_eq_true rfl) (Nat.zero_le _) (Nat.zero_le _) (iin) ?_
              rintro _ N7 ⟨rfl, hN7⟩
              rw [hN7]
              show Wp _ 146 66 [(2, ((1 : Nat) : Int)), (0, (t : Int)), (0, (n : Int)), (0, w)] [(0, 0)] M _ _ _
              refine g_if (t := 73) lk_146_66 rfl (by first | assumption | (unfold pm_inI; omega)) (fun _ => ?_) (fun h => absurd (show (0 : Int) = (0 : Int) by omega) h)
              refine g_aload_n lk_146_73 rfl ?_
              refine g_getfield lk_146_74 rfl (lay.on (by decide) rfl) (v := ((26 : Nat) : Int)) (lay.rf rfl) ?_
              refine g_iload_n lk_146_77 rfl ?_
              refine g_aaload lk_146_78 (by decide) (lay.ay (by decide) rfl) (by omega) (v := ((P : Nat) : Int)) u2 ?_
              refine g_getfield lk_146_79 rfl u1 (v := ((R : Nat) : Int)) u5 ?_
              refine g_iload_n lk_146_82 rfl ?_
              refine g_iaload lk_146_83 u9 (by omega) (v := (e.1 : Int)) rd1 ?_
              refine g_ireturn lk_146_84 (fun h => absurd h (by decide)) ?_
              exact ⟨by rw [if_pos (by omega)], rfl⟩
            · replace h5 : w = 4 := h5
              show Wp _ 146 85 [(2, ((1 : Nat) : Int)), (0, (t : Int)), (0, (n : Int)), (0, w)] [] M _ _ _
              refine g_aload_n lk_146_85 rfl ?_
              refine g_getfield lk_146_86 rfl (lay.on (by decide) rfl) (v := ((26 : Nat) : Int)) (lay.rf rfl) ?_
              refine g_iload_n lk_146_89 rfl ?_
              refine g_aaload lk_146_90 (by decide) (lay.ay (by decide) rfl) (by omega) (v := ((P : Nat) : Int)) u2 ?_
              refine g_iload_n lk_146_91 rfl ?_
              refine g_virtual (p := P) (Qc := _) lk_146_92 rfl (Nat.le_of_ble_eq_true rfl) rfl rfl u1 (Nat.le_of_ble_eq_true rfl) (Nat.le_of_ble_eq_true rfl) (Nat.zero_le _) (Nat.zero_le _) (iin) ?_
              rintro _ N8 ⟨rfl, hN8⟩
              rw [hN8]
              show Wp _ 146 95 [(2, ((1 : Nat) : Int)), (0, (t : Int)), (0, (n : Int)), (0, w)] [(0, 0)] M _ _ _
              refine g_if (t := 102) lk_146_95 rfl (by first | assumption | (unfold pm_inI; omega)) (fun _ => ?_) (fun h => absurd (show (0 : Int) = (0 : Int) by omega) h)
              refine g_aload_n lk_146_102 rfl ?_
              refine g_getfield lk_146_103 rfl (lay.on (by decide) rfl) (v := ((26 : Nat) : Int)) (lay.rf rfl) ?_
              refine g_iload_n lk_146_106 rfl ?_
              refine g_aaload lk_146_107 (by decide) (lay.ay (by decide) rfl) (by omega) (v := ((P : Nat) : Int)) u2 ?_
              refine g_getfield lk_146_108 rfl u1 (v := ((C : Nat) : Int)) u6 ?_
              refine g_iload_n lk_146_111 rfl ?_
              refine g_iaload lk_146_112 u10 (by omega) (v := (e.2.1 : Int)) rd2 ?_
              refine g_ireturn lk_146_113 (fun h => absurd h (by decide)) ?_
              exact ⟨by rw [if_neg (by omega), if_pos (by omega)], rfl⟩
            · show Wp _ 146 114 [(2, ((1 : Nat) : Int)), (0, (t : Int)), (0, (n : Int)), (0, w)] [] M _ _ _
              replace h4 : ¬ w = 3 := h4
              replace h5 : ¬ w = 4 := h5
              refine g_aload_n lk_146_114 rfl ?_
              refine g_getfield lk_146_115 rfl (lay.on (by decide) rfl) (v := ((26 : Nat) : Int)) (lay.rf rfl) ?_
              refine g_iload_n lk_146_118 rfl ?_
              refine g_aaload lk_146_119 (by decide) (lay.ay (by decide) rfl) (by omega) (v := ((P : Nat) : Int)) u2 ?_
              refine g_getfield lk_146_120 rfl u1 (v := ((E : Nat) : Int)) u4 ?_
              refine g_iload_n lk_146_123 rfl ?_
              refine g_iload_n lk_146_124 rfl ?_
              refine g_virtual (p := E) (Qc := _) lk_146_125 rfl (Nat.le_of_ble_eq_true rfl) rfl rfl u3 (Nat.le_of_ble_eq_true rfl) (Nat.le_of_ble_eq_true rfl) (Nat.zero_le _) (Nat.zero_le _) (tn) ?_
              rintro _ N9 ⟨rfl, hN9⟩
              rw [hN9]
              show Wp _ 146 128 [(2, ((1 : Nat) : Int)), (0, (t : Int)), (0, (n : Int)), (0, w)] [(0, (ndOf L (n : Int) w))] M _ _ _
              refine g_ireturn lk_146_128 (fun h => absurd h (by decide)) ?_
              exact ⟨by rw [if_neg (by omega), if_neg (by omega)], rfl⟩
          · replace h3 : ¬ ((n : Int) < (l : Int)) := h3
            omega
    · rw [if_neg (fun z => e2 z.2)]
      clear ii rd
      refine g_aload_n lk_146_0 rfl ?_
      refine g_iload_n lk_146_1 rfl ?_
      refine g_virtual (p := 1) (Qc := _) lk_146_2 rfl (Nat.le_of_ble_eq_true rfl) rfl rfl (lay.on (by decide) rfl) (Nat.le_of_ble_eq_true rfl) (Nat.le_of_ble_eq_true rfl) (Nat.zero_le _) (Nat.zero_le _) (it) ?_
      rintro _ N1 ⟨rfl, hN1⟩
      rw [hN1]
      show Wp _ 146 5 [(2, ((1 : Nat) : Int)), (0, (t : Int)), (0, k), (0, w)] [(0, 1)] M _ _ _
      refine g_if (t := 28) lk_146_5 rfl (by first | assumption | (unfold pm_inI; omega)) (fun h => absurd h (show ¬ ((1 : Int) = (0 : Int)) by omega)) (fun _ => ?_)
      refine g_iload_n lk_146_8 rfl ?_
      refine g_if (t := 28) lk_146_9 rfl (by first | assumption | (unfold pm_inI; omega)) (fun h2 => ?_) (fun h2 => ?_)
      · replace h2 : k < 0 := h2
        refine g_iconst lk_146_28 ?_
        refine g_ireturn lk_146_29 (fun h => absurd h (by decide)) ?_
        exact ⟨rfl, rfl⟩
      · replace h2 : ¬ (k < 0) := h2
        refine g_iload_n lk_146_12 rfl ?_
        refine g_aload_n lk_146_13 rfl ?_
        refine g_getfield lk_146_14 rfl (lay.on (by decide) rfl) (v := ((26 : Nat) : Int)) (lay.rf rfl) ?_
        refine g_iload_n lk_146_17 rfl ?_
        refine g_aaload lk_146_18 (by decide) (lay.ay (by decide) rfl) (by omega) (v := ((P : Nat) : Int)) u2 ?_
        refine g_getfield lk_146_19 rfl u1 (v := ((E : Nat) : Int)) u4 ?_
        refine g_getfield lk_146_22 rfl u3 (v := (l : Int)) ct ?_
        refine g_icmp (t := 30) lk_146_25 rfl (by first | assumption | (unfold pm_inI; omega)) (by first | assumption | (unfold pm_inI; omega)) (fun h3 => ?_) (fun h3 => ?_)
        · replace h3 : k < (l : Int) := h3
          omega
        · replace h3 : ¬ (k < (l : Int)) := h3
          refine g_iconst lk_146_28 ?_
          refine g_ireturn lk_146_29 (fun h => absurd h (by decide)) ?_
          exact ⟨rfl, rfl⟩
  · rw [if_neg e1] at it
    have es : sTold T Ts ps t k w = -1 := by unfold sTold; rw [if_neg (fun z => e1 z.1)]
    rw [es]
    refine g_aload_n lk_146_0 rfl ?_
    refine g_iload_n lk_146_1 rfl ?_
    refine g_virtual (p := 1) (Qc := _) lk_146_2 rfl (Nat.le_of_ble_eq_true rfl) rfl rfl (lay.on (by decide) rfl) (Nat.le_of_ble_eq_true rfl) (Nat.le_of_ble_eq_true rfl) (Nat.zero_le _) (Nat.zero_le _) (it) ?_
    rintro _ N1 ⟨rfl, hN1⟩
    rw [hN1]
    show Wp _ 146 5 [(2, ((1 : Nat) : Int)), (0, t), (0, k), (0, w)] [(0, 0)] M _ _ _
    refine g_if (t := 28) lk_146_5 rfl (by first | (unfold pm_inI; omega) | exact pm_and_in _ _ | exact pm_shr_in _ _ | exact pm_or_in _ _ | exact pm_xor_in _ _ | exact pm_shl_in _ _ | exact pm_cmp_in _ _ | exact pm_b8_in _ | (unfold pm_inI; split <;> omega)) (fun _ => ?_) (fun h => absurd (show (0 : Int) = (0 : Int) by omega) h)
    refine g_iconst lk_146_28 ?_
    refine g_ireturn lk_146_29 (fun h => absurd h (by decide)) ?_
    exact ⟨rfl, rfl⟩
theorem c_X_graft {d mc ms : Nat} {M : pm_M} (lay : Lay M) {T : Tab} (hT : TabOK T) (hM : TbAt M 24 T) {s fa w f : Nat} (hA0 : CA M T s fa) (hB0 : CB M T 0 98 w f) (hff : f = 1 → fa = 1) (hsw : s ≠ w) (b1 : 2 ≤ mc) (b2 : 8192 ≤ ms) {Ts : List (List Nd)} {ps dps : Nat → Nat → Nat} (hTs : TsX M T Ts ps dps) {t g v : Int} (ht : pm_inI t) (hg : pm_inI g) (hv : pm_inI v) :
    pm_E (d + 6) 147 [(2, ((1 : Nat) : Int)), (0, t), (0, g), (0, v)] M mc ms (fun ρ M' => ρ = some (0, sGraft T Ts ps t g v) ∧ Wk M M' T s fa w f) := by
  have it := c_X_isTree (d := d + 5) (mc := 0) (ms := 0) lay hTs.at ht
  have wk : Wk M M T s fa w f := ⟨lay, hM, s, fa, w, f, hA0, hB0, hff, fun z => z, fun z => z, Or.inl rfl, Or.inl rfl, hsw, Gr.refl _ _, rfl⟩
  show Wp (d + 6) 147 0 [(2, ((1 : Nat) : Int)), (0, t), (0, g), (0, v)] [] M mc ms _
  by_cases e1 : 0 ≤ t ∧ t < (Ts.length : Int)
  · rw [if_pos e1] at it
    have l4 := hTs.1
    by_cases e2 : 0 ≤ g ∧ g ≤ 9
    · unfold sGraft
      rw [if_pos ⟨e1, e2⟩]
      obtain ⟨t, rfl⟩ := Int.eq_ofNat_of_zero_le e1.1
      obtain ⟨g, rfl⟩ := Int.eq_ofNat_of_zero_le e2.1
      rw [Int.toNat_natCast, Int.toNat_natCast]
      have td := hTs.2.2 t (by omega)
      obtain ⟨u1, u2, u3, u4, u5, u6, u7, u8, u9, u10, u11, u12⟩ := td_l lay (t := t) (by omega)
      have a1 := c_Told_wrongAbove (d := d + 1) (mc := 0) (ms := 0) lay hT hM (t := t) (by omega) td (g := g) (by omega)
      have a0 := c_Told_graftedCost (d := d) (mc := 2) (ms := 8192) lay hT hM hA0 hB0 hff hsw (by omega) (by omega) (t := t) (by omega) td (g := g) (by omega)
      obtain ⟨L, hL⟩ : ∃ L, L = Ts.getD t [] := ⟨_, rfl⟩
      rw [← hL] at a0 a1 ⊢
      obtain ⟨P, hP⟩ : ∃ P, P = 54 + 11 * t := ⟨_, rfl⟩
      rw [← hP] at u1 u2 a0 a1
      refine g_aload_n lk_147_0 rfl ?_
      refine g_iload_n lk_147_1 rfl ?_
      refine g_virtual (p := 1) (Qc := _) lk_147_2 rfl (Nat.le_of_ble_eq_true rfl) rfl rfl (lay.on (by decide) rfl) (Nat.le_of_ble_eq_true rfl) (Nat.le_of_ble_eq_true rfl) (Nat.zero_le _) (Nat.zero_le _) (it) ?_
      rintro _ N1 ⟨rfl, hN1⟩
      rw [hN1]
      show Wp _ 147 5 [(2, ((1 : Nat) : Int)), (0, (t : Int)), (0, (g : Int)), (0, v)] [(0, 1)] M _ _ _
      refine g_if (t := 18) lk_147_5 rfl (by first | assumption | (unfold pm_inI; omega)) (fun h => absurd h (show ¬ ((1 : Int) = (0 : Int)) by omega)) (fun _ => ?_)
      refine g_iload_n lk_147_8 rfl ?_
      refine g_if (t := 18) lk_147_9 rfl (by first | assumption | (unfold pm_inI; omega)) (fun h2 => ?_) (fun h2 => ?_)
      · replace h2 : (g : Int) < 0 := h2
        omega
      · replace h2 : ¬ ((g : Int) < 0) := h2
        refine g_iload_n lk_147_12 rfl ?_
        refine g_bipush lk_147_13 ?_
        refine g_icmp (t := 20) lk_147_15 rfl (by first | assumption | (unfold pm_inI; omega)) (by first | assumption | (unfold pm_inI; omega)) (fun h3 => ?_) (fun h3 => ?_)
        · replace h3 : (g : Int) ≤ 9 := h3
          refine g_iload_n lk_147_20 rfl ?_
          refine g_lsw lk_147_21 (by first | assumption | (unfold pm_inI; omega)) (And.intro (fun h4 => ?_) (fun h4 => (And.intro (fun h5 => ?_) (fun h5 => ?_))))
          · replace h4 : v = 0 := h4
            show Wp _ 147 48 [(2, ((1 : Nat) : Int)), (0, (t : Int)), (0, (g : Int)), (0, v)] [] M _ _ _
            refine g_aload_n lk_147_48 rfl ?_
            refine g_getfield lk_147_49 rfl (lay.on (by decide) rfl) (v := ((26 : Nat) : Int)) (lay.rf rfl) ?_
            refine g_iload_n lk_147_52 rfl ?_
            refine g_aaload lk_147_53 (by decide) (lay.ay (by decide) rfl) (by omega) (v := ((P : Nat) : Int)) u2 ?_
            refine g_iload_n lk_147_54 rfl ?_
            refine g_aload_n lk_147_55 rfl ?_
            refine g_getfield lk_147_56 rfl (lay.on (by decide) rfl) (v := ((46 : Nat) : Int)) (lay.rf rfl) ?_
            refine g_iconst lk_147_59 ?_
            refine g_aaload lk_147_60 (by decide) (lay.ay (by decide) rfl) (by omega) (v := ((98 : Nat) : Int)) (lay.rf rfl) ?_
            refine g_virtual (p := P) (Qc := _) lk_147_61 rfl (Nat.le_of_ble_eq_true rfl) rfl rfl u1 (Nat.le_of_ble_eq_true rfl) (Nat.le_of_ble_eq_true rfl) (by omega) (by omega) (a0) ?_
            rintro _ K1 ⟨rfl, wk1⟩
            show Wp _ 147 64 [(2, ((1 : Nat) : Int)), (0, (t : Int)), (0, (g : Int)), (0, v)] [(0, (x2 T (gCel T L (ps t) g) : Int))] K1 _ _ _
            refine g_ireturn lk_147_64 (fun h => absurd h (by decide)) ?_
            exact ⟨by rw [if_pos (by omega)], wk1⟩
          · replace h5 : v = 1 := h5
            show Wp _ 147 65 [(2, ((1 : Nat) : Int)), (0, (t : Int)), (0, (g : Int)), (0, v)] [] M _ _ _
            refine g_aload_n lk_147_65 rfl ?_
            refine g_getfield lk_147_66 rfl (lay.on (by decide) rfl) (v := ((26 : Nat) : Int)) (lay.rf rfl) ?_
            refine g_iload_n lk_147_69 rfl ?_
            refine g_aaload lk_147_70 (by decide) (lay.ay (by decide) rfl) (by omega) (v := ((P : Nat) : Int)) u2 ?_
            refine g_aload_n lk_147_71 rfl ?_
            refine g_getfield lk_147_72 rfl (lay.on (by decide) rfl) (v := ((24 : Nat) : Int)) (lay.rf rfl) ?_
            refine g_iload_n lk_147_75 rfl ?_
            refine g_virtual (p := P) (Qc := _) lk_147_76 rfl (Nat.le_of_ble_eq_true rfl) rfl rfl u1 (Nat.le_of_ble_eq_true rfl) (Nat.le_of_ble_eq_true rfl) (Nat.zero_le _) (Nat.zero_le _) (a1) ?_
            rintro _ N7 ⟨rfl, hN7⟩
            rw [hN7]
            show Wp _ 147 79 [(2, ((1 : Nat) : Int)), (0, (t : Int)), (0, (g : Int)), (0, v)] [(0, (tWro T L g : Int))] M _ _ _
            refine g_ireturn lk_147_79 (fun h => absurd h (by decide)) ?_
            exact ⟨by rw [if_neg (by omega), if_pos (by omega)], wk⟩
          · show Wp _ 147 80 [(2, ((1 : Nat) : Int)), (0, (t : Int)), (0, (g : Int)), (0, v)] [] M _ _ _
            replace h4 : ¬ v = 0 := h4
            replace h5 : ¬ v = 1 := h5
            refine g_iconst lk_147_80 ?_
            refine g_ireturn lk_147_81 (fun h => absurd h (by decide)) ?_
            exact ⟨by rw [if_neg (by omega), if_neg (by omega)], wk⟩
        · replace h3 : ¬ ((g : Int) ≤ 9) := h3
          omega
    · have es : sGraft T Ts ps t g v = -1 := by unfold sGraft; rw [if_neg (fun z => e2 z.2)]
      rw [es]
      refine g_aload_n lk_147_0 rfl ?_
      refine g_iload_n lk_147_1 rfl ?_
      refine g_virtual (p := 1) (Qc := _) lk_147_2 rfl (Nat.le_of_ble_eq_true rfl) rfl rfl (lay.on (by decide) rfl) (Nat.le_of_ble_eq_true rfl) (Nat.le_of_ble_eq_true rfl) (Nat.zero_le _) (Nat.zero_le _) (it) ?_
      rintro _ N1 ⟨rfl, hN1⟩
      rw [hN1]
      show Wp _ 147 5 [(2, ((1 : Nat) : Int)), (0, t), (0, g), (0, v)] [(0, 1)] M _ _ _
      refine g_if (t := 18) lk_147_5 rfl (by first | assumption | (unfold pm_inI; omega)) (fun h => absurd h (show ¬ ((1 : Int) = (0 : Int)) by omega)) (fun _ => ?_)
      refine g_iload_n lk_147_8 rfl ?_
      refine g_if (t := 18) lk_147_9 rfl (by first | assumption | (unfold pm_inI; omega)) (fun h2 => ?_) (fun h2 => ?_)
      · replace h2 : g < 0 := h2
        refine g_iconst lk_147_18 ?_
        refine g_ireturn lk_147_19 (fun h => absurd h (by decide)) ?_
        exact ⟨rfl, wk⟩
      · replace h2 : ¬ (g < 0) := h2
        refine g_iload_n lk_147_12 rfl ?_
        refine g_bipush lk_147_13 ?_
        refine g_icmp (t := 20) lk_147_15 rfl (by first | assumption | (unfold pm_inI; omega)) (by first | assumption | (unfold pm_inI; omega)) (fun h3 => ?_) (fun h3 => ?_)
        · replace h3 : g ≤ 9 := h3
          omega
        · replace h3 : ¬ (g ≤ 9) := h3
          refine g_iconst lk_147_18 ?_
          refine g_ireturn lk_147_19 (fun h => absurd h (by decide)) ?_
          exact ⟨rfl, wk⟩
  · rw [if_neg e1] at it
    have es : sGraft T Ts ps t g v = -1 := by unfold sGraft; rw [if_neg (fun z => e1 z.1)]
    rw [es]
    refine g_aload_n lk_147_0 rfl ?_
    refine g_iload_n lk_147_1 rfl ?_
    refine g_virtual (p := 1) (Qc := _) lk_147_2 rfl (Nat.le_of_ble_eq_true rfl) rfl rfl (lay.on (by decide) rfl) (Nat.le_of_ble_eq_true rfl) (Nat.le_of_ble_eq_true rfl) (Nat.zero_le _) (Nat.zero_le _) (it) ?_
    rintro _ N1 ⟨rfl, hN1⟩
    rw [hN1]
    show Wp _ 147 5 [(2, ((1 : Nat) : Int)), (0, t), (0, g), (0, v)] [(0, 0)] M _ _ _
    refine g_if (t := 18) lk_147_5 rfl (by first | (unfold pm_inI; omega) | exact pm_and_in _ _ | exact pm_shr_in _ _ | exact pm_or_in _ _ | exact pm_xor_in _ _ | exact pm_shl_in _ _ | exact pm_cmp_in _ _ | exact pm_b8_in _ | (unfold pm_inI; split <;> omega)) (fun _ => ?_) (fun h => absurd (show (0 : Int) = (0 : Int) by omega) h)
    refine g_iconst lk_147_18 ?_
    refine g_ireturn lk_147_19 (fun h => absurd h (by decide)) ?_
    exact ⟨rfl, wk⟩
set_option maxHeartbeats 4000000 in
theorem c_X_apart {d mc ms : Nat} {M : pm_M} (lay : Lay M) {T : Tab} (hT : TabOK T) (hM : TbAt M 24 T) {Ts : List (List Nd)} {ps dps : Nat → Nat → Nat} (hTs : TsX M T Ts ps dps) {t u : Int} (ht : pm_inI t) (hu : pm_inI u) :
    pm_E (d + 5) 148 [(2, ((1 : Nat) : Int)), (0, t), (0, u)] M mc ms (fun ρ M' => ρ = some (0, sApart T Ts t u) ∧ M' = M) := by
  have it := c_X_isTree (d := d + 4) (mc := 0) (ms := 0) lay hTs.at ht
  have iu := c_X_isTree (d := d + 4) (mc := 0) (ms := 0) lay hTs.at hu
  have l4 := hTs.1
  have hR := hT.1
  have hC := hT.2.1
  obtain ⟨m1, m2, _⟩ := id hM
  show Wp (d + 5) 148 0 [(2, ((1 : Nat) : Int)), (0, t), (0, u), (9, 0), (9, 0), (9, 0)] [] M mc ms _
  by_cases e1 : 0 ≤ t ∧ t < (Ts.length : Int)
  · rw [if_pos e1] at it
    by_cases e2 : 0 ≤ u ∧ u < (Ts.length : Int)
    · rw [if_pos e2] at iu
      have es : sApart T Ts t u = (s2 T (unl (Ts.getD t.toNat []) (Ts.getD u.toNat [])) : Int) := by unfold sApart; rw [if_pos ⟨e1, e2⟩]
      rw [es]
      obtain ⟨t, rfl⟩ := Int.eq_ofNat_of_zero_le e1.1
      obtain ⟨u, rfl⟩ := Int.eq_ofNat_of_zero_le e2.1
      rw [Int.toNat_natCast, Int.toNat_natCast]
      have td := hTs.2.2 t (by omega)
      have tu := hTs.2.2 u (by omega)
      obtain ⟨a1, a2, _⟩ := td_l lay (t := t) (by omega)
      obtain ⟨c1, c2, _⟩ := td_l lay (t := u) (by omega)
      obtain ⟨L, hL⟩ : ∃ L, L = Ts.getD t [] := ⟨_, rfl⟩
      obtain ⟨L', hL'⟩ : ∃ L, L = Ts.getD u [] := ⟨_, rfl⟩
      rw [← hL] at td ⊢
      rw [← hL'] at tu ⊢
      have an := fun r c (hr : r < 6) (hc : c < 6) => c_Told_answerAt (d := d) (mc := 0) (ms := 0) lay hT (t := t) (by omega) td hr hc
      have bn := fun r c (hr : r < 6) (hc : c < 6) => c_Told_answerAt (d := d) (mc := 0) (ms := 0) lay hT (t := u) (by omega) tu hr hc
      obtain ⟨P, hP⟩ : ∃ P, P = 54 + 11 * t := ⟨_, rfl⟩
      obtain ⟨P', hP'⟩ : ∃ P, P = 54 + 11 * u := ⟨_, rfl⟩
      rw [← hP] at a1 a2 an
      rw [← hP'] at c1 c2 bn
      obtain ⟨Q, hQ⟩ : ∃ Q : pm_Q, Q = (fun ρ M' => ρ = some (0, (s2 T (unl L L') : Int)) ∧ M' = M) := ⟨_, rfl⟩
      rw [← hQ]
      have b36 : ∀ r c, r ≤ 6 → c ≤ 6 → True := fun _ _ _ _ => trivial
      have inner : ∀ (r : Nat), r < tR T → Wp (d + 5) 148 23 [(2, ((1 : Nat) : Int)), (0, (t : Int)), (0, (u : Int)), (0, ((pS T (unl L L') (r + 1) 0 : Nat) : Int)), (0, ((r + 1 : Nat) : Int)), (0, (tC T : Int))] [] M mc ms Q → ∀ (n c : Nat), c + n = tC T → Wp (d + 5) 148 38 [(2, ((1 : Nat) : Int)), (0, (t : Int)), (0, (u : Int)), (0, ((pS T (unl L L') r c : Nat) : Int)), (0, (r : Int)), (0, (c : Int))] [] M mc ms Q := by
        intro r hr go n
        induction n with
        | zero =>
          intro c hi
          have e : c = tC T := by omega
          subst e
          refine g_iload lk_148_38 rfl ?_
          refine g_aload_n lk_148_40 rfl ?_
          refine g_getfield lk_148_41 rfl (lay.on (by decide) rfl) (v := ((24 : Nat) : Int)) (lay.rf rfl) ?_
          refine m_getfield (u := []) (M := M) lk_148_44 rfl (lay.on (by decide) rfl) (v := (tC T : Int)) m2 ?_
          refine g_icmp (t := 88) lk_148_47 rfl (by first | (unfold pm_inI; omega) | exact pm_and_in _ _ | exact pm_shr_in _ _ | exact pm_or_in _ _ | exact pm_xor_in _ _ | exact pm_shl_in _ _ | exact pm_cmp_in _ _ | exact pm_b8_in _ | (unfold pm_inI; split <;> omega)) (by first | (unfold pm_inI; omega) | exact pm_and_in _ _ | exact pm_shr_in _ _ | exact pm_or_in _ _ | exact pm_xor_in _ _ | exact pm_shl_in _ _ | exact pm_cmp_in _ _ | exact pm_b8_in _ | (unfold pm_inI; split <;> omega)) (fun h1 => ?_) (fun h1 => ?_)
          · replace h1 : (tC T : Int) ≤ (tC T : Int) := h1
            refine g_iinc (ls' := [(2, ((1 : Nat) : Int)), (0, (t : Int)), (0, (u : Int)), (0, ((pS T (unl L L') r (tC T) : Nat) : Int)), (0, ((r : Int) + 1)), (0, (tC T : Int))]) lk_148_88 rfl rfl rfl ?_
            refine g_goto (t := 23) lk_148_91 rfl ?_
            exact go
          · replace h1 : ¬ ((tC T : Int) ≤ (tC T : Int)) := h1
            omega
        | succ n ih =>
          intro c hi
          have ar := an r c (by omega) (by omega)
          have br := bn r c (by omega) (by omega)
          have v1 := (td.1.1.2.2.2 _ (wy_leaf td.1.1 (r := r) (c := c) (n := 9) (k := 0) (by have := td.1.1.1; omega) (by omega)).2).2.1
          have v2 := (tu.1.1.2.2.2 _ (wy_leaf tu.1.1 (r := r) (c := c) (n := 9) (k := 0) (by have := tu.1.1.1; omega) (by omega)).2).2.1
          have ul : unl L L' r c = if (ndA L (wy L r c 9 0)).2.1 = (ndA L' (wy L' r c 9 0)).2.1 then 0 else 1 := rfl
          obtain ⟨x, hx⟩ : ∃ x, x = (ndA L (wy L r c 9 0)).2.1 := ⟨_, rfl⟩
          obtain ⟨y, hy⟩ : ∃ x, x = (ndA L' (wy L' r c 9 0)).2.1 := ⟨_, rfl⟩
          rw [← hx] at ar ul v1
          rw [← hy] at br ul v2
          have go2 : ∀ z : Int, z = ((pS T (unl L L') r c + unl L L' r c : Nat) : Int) → Wp (d + 5) 148 38 [(2, ((1 : Nat) : Int)), (0, (t : Int)), (0, (u : Int)), (0, z), (0, (r : Int)), (0, (c : Int) + 1)] [] M mc ms Q := fun z hz => by
            rw [hz, ← pS_s]; exact ih (c + 1) (by omega)
          clear an bn
          refine g_iload lk_148_38 rfl ?_
          refine g_aload_n lk_148_40 rfl ?_
          refine g_getfield lk_148_41 rfl (lay.on (by decide) rfl) (v := ((24 : Nat) : Int)) (lay.rf rfl) ?_
          refine m_getfield (u := []) (M := M) lk_148_44 rfl (lay.on (by decide) rfl) (v := (tC T : Int)) m2 ?_
          refine g_icmp (t := 88) lk_148_47 rfl (by first | (unfold pm_inI; omega) | exact pm_and_in _ _ | exact pm_shr_in _ _ | exact pm_or_in _ _ | exact pm_xor_in _ _ | exact pm_shl_in _ _ | exact pm_cmp_in _ _ | exact pm_b8_in _ | (unfold pm_inI; split <;> omega)) (by first | (unfold pm_inI; omega) | exact pm_and_in _ _ | exact pm_shr_in _ _ | exact pm_or_in _ _ | exact pm_xor_in _ _ | exact pm_shl_in _ _ | exact pm_cmp_in _ _ | exact pm_b8_in _ | (unfold pm_inI; split <;> omega)) (fun h1 => ?_) (fun h1 => ?_)
          · replace h1 : (tC T : Int) ≤ (c : Int) := h1
            omega
          · replace h1 : ¬ ((tC T : Int) ≤ (c : Int)) := h1
            refine g_aload_n lk_148_50 rfl ?_
            refine g_getfield lk_148_51 rfl (lay.on (by decide) rfl) (v := ((26 : Nat) : Int)) (lay.rf rfl) ?_
            refine g_iload_n lk_148_54 rfl ?_
            refine g_aaload lk_148_55 (by decide) (lay.ay (by decide) rfl) (by omega) (v := ((P : Nat) : Int)) a2 ?_
            refine g_iload lk_148_56 rfl ?_
            refine g_iload lk_148_58 rfl ?_
            refine g_virtual (p := P) (Qc := _) lk_148_60 rfl (Nat.le_of_ble_eq_true rfl) rfl rfl a1 (Nat.le_of_ble_eq_true rfl) (Nat.le_of_ble_eq_true rfl) (Nat.zero_le _) (Nat.zero_le _) (ar) ?_
            rintro _ N2 ⟨rfl, hN2⟩
            rw [hN2]
            show Wp _ 148 63 [(2, ((1 : Nat) : Int)), (0, (t : Int)), (0, (u : Int)), (0, ((pS T (unl L L') r c : Nat) : Int)), (0, (r : Int)), (0, (c : Int))] [(0, (x : Int))] M _ _ _
            refine g_aload_n lk_148_63 rfl ?_
            refine g_getfield lk_148_64 rfl (lay.on (by decide) rfl) (v := ((26 : Nat) : Int)) (lay.rf rfl) ?_
            refine g_iload_n lk_148_67 rfl ?_
            refine g_aaload lk_148_68 (by decide) (lay.ay (by decide) rfl) (by omega) (v := ((P' : Nat) : Int)) c2 ?_
            refine g_iload lk_148_69 rfl ?_
            refine g_iload lk_148_71 rfl ?_
            refine g_virtual (p := P') (Qc := _) lk_148_73 rfl (Nat.le_of_ble_eq_true rfl) rfl rfl c1 (Nat.le_of_ble_eq_true rfl) (Nat.le_of_ble_eq_true rfl) (Nat.zero_le _) (Nat.zero_le _) (br) ?_
            rintro _ N3 ⟨rfl, hN3⟩
            rw [hN3]
            show Wp _ 148 76 [(2, ((1 : Nat) : Int)), (0, (t : Int)), (0, (u : Int)), (0, ((pS T (unl L L') r c : Nat) : Int)), (0, (r : Int)), (0, (c : Int))] [(0, (y : Int)), (0, (x : Int))] M _ _ _
            refine g_icmp (t := 82) lk_148_76 rfl (by first | (unfold pm_inI; omega) | exact pm_and_in _ _ | exact pm_shr_in _ _ | exact pm_or_in _ _ | exact pm_xor_in _ _ | exact pm_shl_in _ _ | exact pm_cmp_in _ _ | exact pm_b8_in _ | (unfold pm_inI; split <;> omega)) (by first | (unfold pm_inI; omega) | exact pm_and_in _ _ | exact pm_shr_in _ _ | exact pm_or_in _ _ | exact pm_xor_in _ _ | exact pm_shl_in _ _ | exact pm_cmp_in _ _ | exact pm_b8_in _ | (unfold pm_inI; split <;> omega)) (fun h4 => ?_) (fun h4 => ?_)
            · replace h4 : (x : Int) = (y : Int) := h4
              refine g_iinc (ls' := [(2, ((1 : Nat) : Int)), (0, (t : Int)), (0, (u : Int)), (0, ((pS T (unl L L') r c : Nat) : Int)), (0, (r : Int)), (0, ((c : Int) + 1))]) lk_148_82 rfl rfl rfl ?_
              refine g_goto (t := 38) lk_148_85 rfl ?_
              exact go2 _ (by rw [ul, if_pos (by omega)]; omega)
            · replace h4 : ¬ ((x : Int) = (y : Int)) := h4
              refine g_iinc (ls' := [(2, ((1 : Nat) : Int)), (0, (t : Int)), (0, (u : Int)), (0, (((pS T (unl L L') r c : Nat) : Int) + 1)), (0, (r : Int)), (0, (c : Int))]) lk_148_79 rfl rfl rfl ?_
              refine g_iinc (ls' := [(2, ((1 : Nat) : Int)), (0, (t : Int)), (0, (u : Int)), (0, (((pS T (unl L L') r c : Nat) : Int) + 1)), (0, (r : Int)), (0, ((c : Int) + 1))]) lk_148_82 rfl rfl rfl ?_
              refine g_goto (t := 38) lk_148_85 rfl ?_
              exact go2 _ (by rw [ul, if_neg (by omega)]; omega)
      have outer : ∀ (n r : Nat) (v5 : pm_V), r + n = tR T → Wp (d + 5) 148 23 [(2, ((1 : Nat) : Int)), (0, (t : Int)), (0, (u : Int)), (0, ((pS T (unl L L') r 0 : Nat) : Int)), (0, (r : Int)), v5] [] M mc ms Q := by
        intro n
        induction n with
        | zero =>
          intro r v5 hi
          have e : r = tR T := by omega
          subst e
          refine g_iload lk_148_23 rfl ?_
          refine g_aload_n lk_148_25 rfl ?_
          refine g_getfield lk_148_26 rfl (lay.on (by decide) rfl) (v := ((24 : Nat) : Int)) (lay.rf rfl) ?_
          refine m_getfield (u := []) (M := M) lk_148_29 rfl (lay.on (by decide) rfl) (v := (tR T : Int)) m1 ?_
          refine g_icmp (t := 94) lk_148_32 rfl (by first | (unfold pm_inI; omega) | exact pm_and_in _ _ | exact pm_shr_in _ _ | exact pm_or_in _ _ | exact pm_xor_in _ _ | exact pm_shl_in _ _ | exact pm_cmp_in _ _ | exact pm_b8_in _ | (unfold pm_inI; split <;> omega)) (by first | (unfold pm_inI; omega) | exact pm_and_in _ _ | exact pm_shr_in _ _ | exact pm_or_in _ _ | exact pm_xor_in _ _ | exact pm_shl_in _ _ | exact pm_cmp_in _ _ | exact pm_b8_in _ | (unfold pm_inI; split <;> omega)) (fun h1 => ?_) (fun h1 => ?_)
          · replace h1 : (tR T : Int) ≤ (tR T : Int) := h1
            refine g_iload_n lk_148_94 rfl ?_
            refine g_ireturn lk_148_95 (fun h => absurd h (by decide)) ?_
            rw [hQ]
            exact ⟨by rw [pS_e], rfl⟩
          · replace h1 : ¬ ((tR T : Int) ≤ (tR T : Int)) := h1
            omega
        | succ n ih =>
          intro r v5 hi
          refine g_iload lk_148_23 rfl ?_
          refine g_aload_n lk_148_25 rfl ?_
          refine g_getfield lk_148_26 rfl (lay.on (by decide) rfl) (v := ((24 : Nat) : Int)) (lay.rf rfl) ?_
          refine m_getfield (u := []) (M := M) lk_148_29 rfl (lay.on (by decide) rfl) (v := (tR T : Int)) m1 ?_
          refine g_icmp (t := 94) lk_148_32 rfl (by first | (unfold pm_inI; omega) | exact pm_and_in _ _ | exact pm_shr_in _ _ | exact pm_or_in _ _ | exact pm_xor_in _ _ | exact pm_shl_in _ _ | exact pm_cmp_in _ _ | exact pm_b8_in _ | (unfold pm_inI; split <;> omega)) (by first | (unfold pm_inI; omega) | exact pm_and_in _ _ | exact pm_shr_in _ _ | exact pm_or_in _ _ | exact pm_xor_in _ _ | exact pm_shl_in _ _ | exact pm_cmp_in _ _ | exact pm_b8_in _ | (unfold pm_inI; split <;> omega)) (fun h1 => ?_) (fun h1 => ?_)
          · replace h1 : (tR T : Int) ≤ (r : Int) := h1
            omega
          · replace h1 : ¬ ((tR T : Int) ≤ (r : Int)) := h1
            refine g_iconst lk_148_35 ?_
            refine g_istore (ls' := [(2, ((1 : Nat) : Int)), (0, (t : Int)), (0, (u : Int)), (0, ((pS T (unl L L') r 0 : Nat) : Int)), (0, (r : Int)), (0, 0)]) lk_148_36 rfl rfl ?_
            exact inner r (by omega) (ih (r + 1) _ (by omega)) (tC T) 0 (by omega)
      refine g_aload_n lk_148_0 rfl ?_
      refine g_iload_n lk_148_1 rfl ?_
      refine g_virtual (p := 1) (Qc := _) lk_148_2 rfl (Nat.le_of_ble_eq_true rfl) rfl rfl (lay.on (by decide) rfl) (Nat.le_of_ble_eq_true rfl) (Nat.le_of_ble_eq_true rfl) (Nat.zero_le _) (Nat.zero_le _) (it) ?_
      rintro _ N1 ⟨rfl, hN1⟩
      rw [hN1]
      show Wp _ 148 5 [(2, ((1 : Nat) : Int)), (0, (t : Int)), (0, (u : Int)), (9, 0), (9, 0), (9, 0)] [(0, 1)] M _ _ _
      refine g_if (t := 16) lk_148_5 rfl (by first | (unfold pm_inI; omega) | exact pm_and_in _ _ | exact pm_shr_in _ _ | exact pm_or_in _ _ | exact pm_xor_in _ _ | exact pm_shl_in _ _ | exact pm_cmp_in _ _ | exact pm_b8_in _ | (unfold pm_inI; split <;> omega)) (fun h => absurd h (show ¬ ((1 : Int) = (0 : Int)) by omega)) (fun _ => ?_)
      refine g_aload_n lk_148_8 rfl ?_
      refine g_iload_n lk_148_9 rfl ?_
      refine g_virtual (p := 1) (Qc := _) lk_148_10 rfl (Nat.le_of_ble_eq_true rfl) rfl rfl (lay.on (by decide) rfl) (Nat.le_of_ble_eq_true rfl) (Nat.le_of_ble_eq_true rfl) (Nat.zero_le _) (Nat.zero_le _) (iu) ?_
      rintro _ N2 ⟨rfl, hN2⟩
      rw [hN2]
      show Wp _ 148 13 [(2, ((1 : Nat) : Int)), (0, (t : Int)), (0, (u : Int)), (9, 0), (9, 0), (9, 0)] [(0, 1)] M _ _ _
      refine g_if (t := 18) lk_148_13 rfl (by first | (unfold pm_inI; omega) | exact pm_and_in _ _ | exact pm_shr_in _ _ | exact pm_or_in _ _ | exact pm_xor_in _ _ | exact pm_shl_in _ _ | exact pm_cmp_in _ _ | exact pm_b8_in _ | (unfold pm_inI; split <;> omega)) (fun _ => ?_) (fun h => absurd (show ¬ (1 : Int) = (0 : Int) by omega) h)
      refine g_iconst lk_148_18 ?_
      refine g_istore_n (ls' := [(2, ((1 : Nat) : Int)), (0, (t : Int)), (0, (u : Int)), (0, 0), (9, 0), (9, 0)]) lk_148_19 rfl rfl ?_
      refine g_iconst lk_148_20 ?_
      refine g_istore (ls' := [(2, ((1 : Nat) : Int)), (0, (t : Int)), (0, (u : Int)), (0, 0), (0, 0), (9, 0)]) lk_148_21 rfl rfl ?_
      exact outer (tR T) 0 _ (by omega)
    · rw [if_neg e2] at iu
      have es : sApart T Ts t u = -1 := by unfold sApart; rw [if_neg (fun z => e2 z.2)]
      rw [es]
      refine g_aload_n lk_148_0 rfl ?_
      refine g_iload_n lk_148_1 rfl ?_
      refine g_virtual (p := 1) (Qc := _) lk_148_2 rfl (Nat.le_of_ble_eq_true rfl) rfl rfl (lay.on (by decide) rfl) (Nat.le_of_ble_eq_true rfl) (Nat.le_of_ble_eq_true rfl) (Nat.zero_le _) (Nat.zero_le _) (it) ?_
      rintro _ N1 ⟨rfl, hN1⟩
      rw [hN1]
      show Wp _ 148 5 [(2, ((1 : Nat) : Int)), (0, t), (0, u), (9, 0), (9, 0), (9, 0)] [(0, 1)] M _ _ _
      refine g_if (t := 16) lk_148_5 rfl (by first | (unfold pm_inI; omega) | exact pm_and_in _ _ | exact pm_shr_in _ _ | exact pm_or_in _ _ | exact pm_xor_in _ _ | exact pm_shl_in _ _ | exact pm_cmp_in _ _ | exact pm_b8_in _ | (unfold pm_inI; split <;> omega)) (fun h => absurd h (show ¬ ((1 : Int) = (0 : Int)) by omega)) (fun _ => ?_)
      refine g_aload_n lk_148_8 rfl ?_
      refine g_iload_n lk_148_9 rfl ?_
      refine g_virtual (p := 1) (Qc := _) lk_148_10 rfl (Nat.le_of_ble_eq_true rfl) rfl rfl (lay.on (by decide) rfl) (Nat.le_of_ble_eq_true rfl) (Nat.le_of_ble_eq_true rfl) (Nat.zero_le _) (Nat.zero_le _) (iu) ?_
      rintro _ N2 ⟨rfl, hN2⟩
      rw [hN2]
      show Wp _ 148 13 [(2, ((1 : Nat) : Int)), (0, t), (0, u), (9, 0), (9, 0), (9, 0)] [(0, 0)] M _ _ _
      refine g_if (t := 18) lk_148_13 rfl (by first | (unfold pm_inI; omega) | exact pm_and_in _ _ | exact pm_shr_in _ _ | exact pm_or_in _ _ | exact pm_xor_in _ _ | exact pm_shl_in _ _ | exact pm_cmp_in _ _ | exact pm_b8_in _ | (unfold pm_inI; split <;> omega)) (fun h => absurd h (show ¬ (¬ (0 : Int) = (0 : Int)) by omega)) (fun _ => ?_)
      refine g_iconst lk_148_16 ?_
      refine g_ireturn lk_148_17 (fun h => absurd h (by decide)) ?_
      exact ⟨rfl, rfl⟩
  · rw [if_neg e1] at it
    have es : sApart T Ts t u = -1 := by unfold sApart; rw [if_neg (fun z => e1 z.1)]
    rw [es]
    refine g_aload_n lk_148_0 rfl ?_
    refine g_iload_n lk_148_1 rfl ?_
    refine g_virtual (p := 1) (Qc := _) lk_148_2 rfl (Nat.le_of_ble_eq_true rfl) rfl rfl (lay.on (by decide) rfl) (Nat.le_of_ble_eq_true rfl) (Nat.le_of_ble_eq_true rfl) (Nat.zero_le _) (Nat.zero_le _) (it) ?_
    rintro _ N1 ⟨rfl, hN1⟩
    rw [hN1]
    show Wp _ 148 5 [(2, ((1 : Nat) : Int)), (0, t), (0, u), (9, 0), (9, 0), (9, 0)] [(0, 0)] M _ _ _
    refine g_if (t := 16) lk_148_5 rfl (by first | (unfold pm_inI; omega) | exact pm_and_in _ _ | exact pm_shr_in _ _ | exact pm_or_in _ _ | exact pm_xor_in _ _ | exact pm_shl_in _ _ | exact pm_cmp_in _ _ | exact pm_b8_in _ | (unfold pm_inI; split <;> omega)) (fun _ => ?_) (fun h => absurd (show (0 : Int) = (0 : Int) by omega) h)
    refine g_iconst lk_148_16 ?_
    refine g_ireturn lk_148_17 (fun h => absurd h (by decide)) ?_
    exact ⟨rfl, rfl⟩
