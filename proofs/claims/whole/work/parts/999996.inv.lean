/-! ===== what holds between two calls ===== -/
theorem AcOK.cg {a b : Nat → Int} : ∀ (n : Nat) {R C : Nat}, (∀ i, i < n → b i = a i) → AcOK a R C n → AcOK b R C n
  | 0, _, _, _, _ => trivial
  | n + 1, R, C, e, h => by
    have en := e n (Nat.lt_succ_self n)
    rcases h with ⟨h1, h2⟩ | ⟨m, h1, h2, h3, h4, h5⟩
    · exact Or.inl ⟨by rw [en]; exact h1, AcOK.cg n (fun i hi => e i (by omega)) h2⟩
    · exact Or.inr ⟨m, by rw [en]; exact h1, h2, h3, h4, AcOK.cg n (fun i hi => e i (by omega)) h5⟩
theorem AcOK.sh {a : Nat → Int} : ∀ (n : Nat) {R C : Nat}, AcOK a R C (n + 1) → AcOK (fun i => a (i + 1)) R C n
  | 0, _, _, _ => trivial
  | n + 1, R, C, h => by
    rcases h with ⟨h1, h2⟩ | ⟨m, h1, h2, h3, h4, h5⟩
    · exact Or.inl ⟨h1, AcOK.sh n h2⟩
    · exact Or.inr ⟨m, h1, h2, h3, h4, AcOK.sh n h5⟩
theorem kA_12 {n : Nat} {a : Nat → Int} {z : Int} (h : n = 12) (i : Nat) : kA n a z i = if i = 11 then z else a (i + 1) := by unfold kA; rw [if_pos h]
theorem kA_n {n : Nat} {a : Nat → Int} {z : Int} (h : ¬ n = 12) (i : Nat) : kA n a z i = if i = n then z else a i := by unfold kA; rw [if_neg h]
theorem AcOK.low {a : Nat → Int} {z : Int} {n R C : Nat} (h : AcOK a R C n) (n12 : n ≤ 12) : ∃ m, kN n = m + 1 ∧ kA n a z m = z ∧ AcOK (kA n a z) R C m := by
  by_cases e : n = 12
  · refine ⟨11, by unfold kN; rw [if_pos e], by rw [kA_12 e, if_pos rfl], ?_⟩
    rw [e] at h
    exact (AcOK.sh 11 h).cg 11 (fun i hi => by rw [kA_12 e, if_neg (by omega)])
  · refine ⟨n, by unfold kN; rw [if_neg e], by rw [kA_n e, if_pos rfl], ?_⟩
    exact h.cg n (fun i hi => by rw [kA_n e, if_neg (by omega)])
theorem AcOK.put {a : Nat → Int} {n R C r c x : Nat} (h : AcOK a R C n) (n12 : n ≤ 12) (hr : r < R) (hR : R ≤ 6) (hc : c < C) (hC : C ≤ 6) (hx : x ≤ 10) : AcOK (kA n a (((6 * r + c) * 11 + x : Nat) : Int)) R C (kN n) := by
  obtain ⟨m, h1, h2, h3⟩ := h.low (z := (((6 * r + c) * 11 + x : Nat) : Int)) n12
  rw [h1]
  have e1 : ((6 * r + c) * 11 + x) / 11 = 6 * r + c := by omega
  exact Or.inr ⟨(6 * r + c) * 11 + x, h2, by omega, by rw [e1]; omega, by rw [e1]; omega, h3⟩
theorem AcOK.turn {a : Nat → Int} {n R C : Nat} (h : AcOK a R C n) (n12 : n ≤ 12) : AcOK (kA n a (-1)) C R (kN n) := by
  obtain ⟨m, h1, h2, h3⟩ := h.low (z := -1) n12
  rw [h1]
  exact Or.inl ⟨h2, h3⟩
theorem AcOK.undo {a : Nat → Int} {T : Tab} {k : Nat} (hT : TabOK T) (hX : TabX T) (h : AcOK a (tR T) (tC T) (k + 1)) : TabOK (undT T (a k)) ∧ TabX (undT T (a k)) ∧ AcOK a (tR (undT T (a k))) (tC (undT T (a k))) k := by
  rcases h with ⟨h1, h2⟩ | ⟨m, h1, h2, h3, h4, h5⟩
  · have e : undT T (a k) = Tsw T := by unfold undT; rw [if_pos h1]
    rw [e]
    exact ⟨hT.sw, hX.sw, h2⟩
  · have e : undT T (a k) = Tput T (m / 11) (m % 11) := by
      unfold undT
      rw [if_neg (by rw [h1]; omega), h1]
      rfl
    rw [e]
    exact ⟨hT.put (by omega), hX.put ⟨h3, h4⟩, h5⟩
/-- cells that the state between calls speaks of, caches aside -/
def stI (a : Nat) : Bool := decide (a < 4) || decide (a = 24) || decide (a = 25) || decide (a = 27) || (decide (54 ≤ a) && decide (a ≤ 97)) || (decide (116 ≤ a) && decide (a ≤ 156))
theorem stI_f {S : List Nat} (hS : ∀ b, b ∈ S → stI b = false) {a : Nat} (h : stI a = true) : a ∉ S := fun q => by rw [hS a q] at h; cases h
theorem stI_own {s : Nat} (h : own s) : stI s = false := by
  unfold own at h
  unfold stI
  simp
  omega
theorem stI_lt {a : Nat} (h : stI a = true) : a ≤ 156 := by
  unfold stI at h
  simp at h
  omega
def TaI (M : pm_M) (n : Nat) (tp : Nat → Int) : Prop := TpX M n tp ∧ TpM M n tp ∧ n ≤ 500 ∧ ∀ i, i < n → 0 ≤ tp i ∧ tp i < 256
def FtI (M : pm_M) (f p : Int) : Prop := pm_ct M 2 6 = f ∧ pm_ct M 2 7 = p ∧ pm_ct M 116 29 = f ∧ pm_ct M 116 30 = p
def ScI (M : pm_M) (L : Nat) (X : Nat → Int) : Prop := 1 ≤ M.1 ∧ pm_kd M 0 = 100 ∧ pm_ln M 0 = L ∧ pm_ct M 0 = X
def AxI (M : pm_M) (L : Nat) (X : Nat → Int) (n : Nat) (tp : Nat → Int) (f p : Int) : Prop := TaI M n tp ∧ KdM M 128 ∧ FtI M f p ∧ ScI M L X
def TbI (T : Tab) (na : Nat) (aa : Nat → Int) : Prop := TabOK T ∧ TabX T ∧ AcOK aa (tR T) (tC T) na
theorem ScI.gr {S : List Nat} {M N : pm_M} {L : Nat} {X : Nat → Int} (h : ScI M L X) (k : Gr S M N) (h0 : 0 ∉ S) : ScI N L X := by
  obtain ⟨a1, a2, a3, a4⟩ := h
  exact ⟨Nat.le_trans a1 k.1, (k.2.1 0 a1).1.trans a2, (k.2.1 0 a1).2.trans a3, (k.ct a1 h0).trans a4⟩
theorem AxI.gr {S : List Nat} {M N : pm_M} {L : Nat} {X : Nat → Int} {n : Nat} {tp : Nat → Int} {f p : Int} (h : AxI M L X n tp f p) (k : Gr S M N) (m : 157 ≤ M.1) (hS : ∀ b, b ∈ S → b ≠ 0 ∧ b ≠ 2 ∧ b ≠ 3 ∧ b ≠ 116 ∧ b ≠ 128 ∧ b ≠ 132) : AxI N L X n tp f p := by
  obtain ⟨a1, a2, a3, a4⟩ := h
  refine ⟨?_, ?_, ?_, a4.gr k (fun q => absurd rfl (hS _ q).1)⟩
  · unfold TaI TpX TpM at a1 ⊢
    rw [k.ct (a := 2) (by omega) (fun q => absurd rfl (hS _ q).2.1), k.ct (a := 3) (by omega) (fun q => absurd rfl (hS _ q).2.2.1), k.ct (a := 116) (by omega) (fun q => absurd rfl (hS _ q).2.2.2.1), k.ct (a := 132) (by omega) (fun q => absurd rfl (hS _ q).2.2.2.2.2)]
    exact a1
  · unfold KdM at a2 ⊢
    rw [k.ct (a := 128) (by omega) (fun q => absurd rfl (hS _ q).2.2.2.2.1)]
    exact a2
  · unfold FtI at a3 ⊢
    rw [k.ct (a := 2) (by omega) (fun q => absurd rfl (hS _ q).2.1), k.ct (a := 116) (by omega) (fun q => absurd rfl (hS _ q).2.2.2.1)]
    exact a3
theorem MF.fr {S K : List Nat} {M N : pm_M} (h : MF S K M N) : Fr (116 :: S) M N := ⟨h.1, h.2.1, h.2.2.1, fun a ha => h.2.2.2.1 a (fun q => ha (List.mem_cons_of_mem _ q)) (fun q => ha (by rw [q]; exact List.mem_cons_self))⟩
theorem AxI.mf {S K : List Nat} {M N : pm_M} {L : Nat} {X : Nat → Int} {n : Nat} {tp : Nat → Int} {f p : Int} (h : AxI M L X n tp f p) (k : MF S K M N) (hS : ∀ b, b ∈ S → 117 ≤ b ∧ b ≤ 156 ∧ b ≠ 128 ∧ b ≠ 132) (hK : ∀ b, b ∈ K → b ≠ 23 ∧ b ≠ 29 ∧ b ≠ 30) : AxI N L X n tp f p := by
  obtain ⟨a1, a2, a3, a4⟩ := h
  have e2 : pm_ct N 2 = pm_ct M 2 := k.ct (fun q => by have := hS _ q; omega) (by decide)
  have e3 : pm_ct N 3 = pm_ct M 3 := k.ct (fun q => by have := hS _ q; omega) (by decide)
  have e8 : pm_ct N 128 = pm_ct M 128 := k.ct (fun q => by have := hS _ q; omega) (by decide)
  have e32 : pm_ct N 132 = pm_ct M 132 := k.ct (fun q => by have := hS _ q; omega) (by decide)
  have e23 : pm_ct N 116 23 = pm_ct M 116 23 := k.fd (fun q => by have := hK _ q; omega)
  have e29 : pm_ct N 116 29 = pm_ct M 116 29 := k.fd (fun q => by have := hK _ q; omega)
  have e30 : pm_ct N 116 30 = pm_ct M 116 30 := k.fd (fun q => by have := hK _ q; omega)
  refine ⟨?_, ?_, ?_, a4.gr k.fr.gr (fun q => (List.mem_cons.mp q).elim (fun e => by omega) (fun e => by have := hS _ e; omega))⟩
  · unfold TaI TpX TpM at a1 ⊢
    rw [e2, e3, e23, e32]
    exact a1
  · unfold KdM at a2 ⊢
    rw [e8]; exact a2
  · unfold FtI at a3 ⊢
    rw [e2, e29, e30]; exact a3
theorem StM.cg {M N : pm_M} {T : Tab} {Ts : List (List Nd)} {ps dps : Nat → Nat → Nat} {na : Nat} {aa : Nat → Int} (h : StM M T Ts ps dps na aa) (l : Lay N) (e : ∀ a, 116 ≤ a → a ≤ 156 → pm_ct N a = pm_ct M a) : StM N T Ts ps dps na aa := by
  obtain ⟨_, h2, h3, h4, h5, h6⟩ := h
  refine ⟨l, ?_, ?_, ?_, ?_, ?_⟩
  · unfold MoAt at h2 ⊢
    rw [e 116 (by omega) (by omega), e 117 (by omega) (by omega), e 120 (by omega) (by omega)]; exact h2
  · unfold TsMX TrM at h3 ⊢
    rw [e 116 (by omega) (by omega), e 122 (by omega) (by omega), e 123 (by omega) (by omega), e 124 (by omega) (by omega), e 125 (by omega) (by omega)]; exact h3
  · unfold AcM at h4 ⊢
    rw [e 116 (by omega) (by omega), e 155 (by omega) (by omega), e 156 (by omega) (by omega)]; exact h4
  · obtain ⟨f, h5⟩ := h5
    refine ⟨f, ?_⟩
    unfold CL LdOK ArK TbK at h5 ⊢
    rw [e 116 (by omega) (by omega), e 142 (by omega) (by omega), e 143 (by omega) (by omega), e 144 (by omega) (by omega)]; exact h5
  · unfold KdM at h6 ⊢
    rw [e 123 (by omega) (by omega)]; exact h6
theorem StM.gr {S : List Nat} {M N : pm_M} {T : Tab} {Ts : List (List Nd)} {ps dps : Nat → Nat → Nat} {na : Nat} {aa : Nat → Int} (h : StM M T Ts ps dps na aa) (k : Gr S M N) (l : Lay N) (hS : ∀ b, b ∈ S → b < 116 ∨ 156 < b) : StM N T Ts ps dps na aa :=
  h.cg l (fun a h1 h2 => k.ct (by have := h.1.1; omega) (fun q => by have := hS _ q; omega))
theorem StM.cl {S K : List Nat} {M N : pm_M} {T : Tab} {Ts : List (List Nd)} {ps dps : Nat → Nat → Nat} {na : Nat} {aa : Nat → Int} (h : StM M T Ts ps dps na aa) (k : MF S K M N) (l : Lay N) (c : ∃ f, CL N T f) (h1 : ∀ a, a ∈ [117, 120, 122, 123, 124, 125, 155, 156] → a ∉ S) (h2 : ∀ a, a ∈ [1, 2, 3, 70] → a ∉ K) : StM N T Ts ps dps na aa := by
  obtain ⟨_, b, d, e, _, i⟩ := h
  exact ⟨l, b.mf k (h2 _ (by decide)) (h2 _ (by decide)) (h1 _ (by decide)) (h1 _ (by decide)), d.mf k (h2 _ (by decide)) (h1 _ (by decide)) (h1 _ (by decide)) (h1 _ (by decide)) (h1 _ (by decide)), e.mf k (h2 _ (by decide)) (h1 _ (by decide)) (h1 _ (by decide)), c, i.mf k (h1 _ (by decide)) (by decide)⟩
/-- the class's state through a call of its own that changes caches at most -/
theorem StX.gr {S : List Nat} {M N : pm_M} {T : Tab} {Ts : List (List Nd)} {ps dps : Nat → Nat → Nat} {na : Nat} {aa : Nat → Int} (h : StX M T Ts ps dps na aa) (k : Gr S M N) (l : Lay N) (c : Chs N T) (hS : ∀ b, b ∈ S → stI b = false) : StX N T Ts ps dps na aa := by
  obtain ⟨l0, b, d, e, _⟩ := h
  have m := l0.1
  have n : ∀ a, stI a = true → pm_ct N a = pm_ct M a := fun a ha => k.ct (by have := stI_lt ha; omega) (stI_f hS ha)
  refine ⟨l, ?_, d.gr k m (by rw [n 1 rfl]) (fun a h1 h2 => stI_f hS (by unfold stI; simp; omega)), ?_, c⟩
  · unfold TbAt at b ⊢
    rw [n 24 rfl, n (24 + 1) rfl]; exact b
  · unfold AcX at e ⊢
    rw [n 1 rfl, n 27 rfl]; exact e
theorem StX.mf {S K : List Nat} {M N : pm_M} {T : Tab} {Ts : List (List Nd)} {ps dps : Nat → Nat → Nat} {na : Nat} {aa : Nat → Int} (h : StX M T Ts ps dps na aa) (k : MF S K M N) (l : Lay N) (hS : ∀ b, b ∈ S → 117 ≤ b ∧ b ≤ 156) : StX N T Ts ps dps na aa := by
  obtain ⟨l0, b, d, e, c⟩ := h
  have m := l0.1
  have s1 : ∀ b, b ∈ 116 :: S → 116 ≤ b ∧ b ≤ 156 := fun b hb => by
    rcases List.mem_cons.mp hb with q | q
    · omega
    · have := hS _ q; omega
  have n : ∀ a, a < 116 → pm_ct N a = pm_ct M a := fun a ha => k.fr.ct (fun q => by have := s1 _ q; omega)
  refine ⟨l, ?_, d.gr k.fr.gr m (by rw [n 1 (by omega)]) (fun a h1 h2 q => by have := s1 _ q; omega), ?_, c.gr k.fr.gr m (fun a ha => ?_)⟩
  · unfold TbAt at b ⊢
    rw [n 24 (by omega), n (24 + 1) (by omega)]; exact b
  · unfold AcX at e ⊢
    rw [n 1 (by omega), n 27 (by omega)]; exact e
  · have := s1 a ha
    unfold okC
    simp
    omega
/-- all that holds between two calls -/
def Inv (M : pm_M) (L : Nat) (X : Nat → Int) : Prop := ∃ (T : Tab) (Ts : List (List Nd)) (ps dps : Nat → Nat → Nat) (na : Nat) (aa : Nat → Int) (n : Nat) (tp : Nat → Int) (f p : Int), StX M T Ts ps dps na aa ∧ StM M T Ts ps dps na aa ∧ TbI T na aa ∧ AxI M L X n tp f p
