/-! ===== least worst costs with few changes of who talks ===== -/
theorem mn_mono {C : Nat → Bool} {f g : Nat → Nat} : ∀ {n : Nat}, (∀ q, q < n → C q = true → f q ≤ g q) → mn C f n ≤ mn C g n
  | 0, _ => Nat.le_refl _
  | n + 1, h => by
    have ih := mn_mono (n := n) (fun q hq => h q (by omega))
    rw [mn_s, mn_s]
    by_cases c : C n = true
    · rw [if_pos c, if_pos c]
      have := h n (by omega) c
      omega
    · rw [if_neg c, if_neg c]; exact ih
theorem spl_mono {b s : Nat} {g g' : Nat → Nat} (hs : s < 64) (h0 : s ≠ 0) (h : ∀ q, 1 ≤ q → q < s → g q ≤ g' q) : spl b g s ≤ spl b g' s := by
  refine mn_mono (fun q hq hc => ?_)
  obtain ⟨c1, c2, -⟩ := spC_s hs h0 hq hc
  have h1 := h q c1 hq
  have h2 := h (s - q) c2 (by omega)
  unfold spF cmb
  split <;> omega
/-- what the one who talks comes to: 0 A, 1 B -/
def ov (T : Tab) (f : Nat → Nat → Nat → Nat → Nat) (w t rs cs : Nat) : Nat := min 1000000 (if w = 0 then tA T + spl 0 (fun q => f 0 t q cs) rs else tB T + spl 0 (fun q => f 1 t rs q) cs)
def tw (T : Tab) : Nat → Nat → Nat → Nat → Nat → Nat
  | 0 => fun _ _ _ _ => 0
  | n + 1 => fun w t rs cs => if pop (vIn T rs cs) < 2 then 0 else if t = 0 then ov T (tw T n) w t rs cs else min (ov T (tw T n) w t rs cs) (ov T (tw T n) (1 - w) (t - 1) rs cs)
theorem tw_s (T : Tab) (n w t rs cs : Nat) : tw T (n + 1) w t rs cs = if pop (vIn T rs cs) < 2 then 0 else if t = 0 then ov T (tw T n) w t rs cs else min (ov T (tw T n) w t rs cs) (ov T (tw T n) (1 - w) (t - 1) rs cs) := rfl
theorem ov_congr {T : Tab} {f g : Nat → Nat → Nat → Nat → Nat} {w t rs cs : Nat} (h1 : rs < 64) (h2 : cs < 64) (h3 : 1 ≤ rs) (h4 : 1 ≤ cs) (h : ∀ w rs' cs', 1 ≤ rs' → 1 ≤ cs' → rs' < 64 → cs' < 64 → rs' + cs' < rs + cs → f w t rs' cs' = g w t rs' cs') : ov T f w t rs cs = ov T g w t rs cs := by
  unfold ov
  rw [spl_congr h1 (by omega) (fun q a b => h 0 q cs a h4 (by omega) h2 (by omega)), spl_congr h2 (by omega) (fun q a b => h 1 rs q h3 a h1 (by omega) (by omega))]
theorem tw_eq (T : Tab) : ∀ n m w t rs cs, rs < 64 → cs < 64 → 1 ≤ rs → 1 ≤ cs → rs + cs ≤ n → rs + cs ≤ m → tw T n w t rs cs = tw T m w t rs cs
  | 0, _, _, _, _, _, _, _, _, _, a, _ => by omega
  | _ + 1, 0, _, _, _, _, _, _, _, _, _, a => by omega
  | n + 1, m + 1, w, t, rs, cs, h1, h2, h3, h4, h5, h6 => by
    have h : ∀ t w rs' cs', 1 ≤ rs' → 1 ≤ cs' → rs' < 64 → cs' < 64 → rs' + cs' < rs + cs → tw T n w t rs' cs' = tw T m w t rs' cs' := fun t w rs' cs' a1 a2 a3 a4 a5 => tw_eq T n m w t rs' cs' a3 a4 a1 a2 (by omega) (by omega)
    rw [tw_s, tw_s, ov_congr (w := w) h1 h2 h3 h4 (h t), ov_congr (w := 1 - w) h1 h2 h3 h4 (h (t - 1))]
def TW (T : Tab) (w t rs cs : Nat) : Nat := tw T 128 w t rs cs
def OV (T : Tab) (w t rs cs : Nat) : Nat := ov T (TW T) w t rs cs
theorem TW_s (T : Tab) (w t : Nat) {rs cs : Nat} (h1 : rs < 64) (h2 : cs < 64) (h3 : 1 ≤ rs) (h4 : 1 ≤ cs) : TW T w t rs cs = if pop (vIn T rs cs) < 2 then 0 else if t = 0 then OV T w t rs cs else min (OV T w t rs cs) (OV T (1 - w) (t - 1) rs cs) := by
  have h : ∀ t w rs' cs', 1 ≤ rs' → 1 ≤ cs' → rs' < 64 → cs' < 64 → rs' + cs' < rs + cs → tw T 127 w t rs' cs' = TW T w t rs' cs' := fun t w rs' cs' a1 a2 a3 a4 a5 => tw_eq T 127 128 w t rs' cs' a3 a4 a1 a2 (by omega) (by omega)
  show tw T (127 + 1) w t rs cs = _
  rw [tw_s, ov_congr (w := w) h1 h2 h3 h4 (h t), ov_congr (w := 1 - w) h1 h2 h3 h4 (h (t - 1))]
  rfl
theorem OV_far (T : Tab) (w t rs cs : Nat) : OV T w t rs cs ≤ 1000000 := Nat.min_le_left _ _
theorem TW_far (T : Tab) (w t : Nat) {rs cs : Nat} (h1 : rs < 64) (h2 : cs < 64) (h3 : 1 ≤ rs) (h4 : 1 ≤ cs) : TW T w t rs cs ≤ 1000000 := by
  rw [TW_s T w t h1 h2 h3 h4]
  have := OV_far T w t rs cs
  split
  · omega
  · split
    · exact this
    · exact Nat.le_trans (Nat.min_le_left _ _) this
theorem OV_mono {T : Tab} {t t' : Nat} {w rs cs : Nat} (h1 : rs < 64) (h2 : cs < 64) (h3 : 1 ≤ rs) (h4 : 1 ≤ cs) (h : ∀ w rs' cs', 1 ≤ rs' → 1 ≤ cs' → rs' < 64 → cs' < 64 → rs' + cs' < rs + cs → TW T w t' rs' cs' ≤ TW T w t rs' cs') : OV T w t' rs cs ≤ OV T w t rs cs := by
  have a := spl_mono (b := 0) h1 (by omega) (fun q a b => h 0 q cs a h4 (by omega) h2 (by omega))
  have b : spl 0 (fun q => TW T 1 t' rs q) cs ≤ spl 0 (fun q => TW T 1 t rs q) cs := spl_mono (b := 0) h2 (by omega) (fun q a b => h 1 rs q h3 a h1 (by omega) (by omega))
  unfold OV ov
  split <;> omega
theorem TW_mono (T : Tab) : ∀ n w t rs cs, rs + cs ≤ n → 1 ≤ rs → 1 ≤ cs → rs < 64 → cs < 64 → TW T w (t + 1) rs cs ≤ TW T w t rs cs
  | 0, _, _, _, _, a, b, _, _, _ => by omega
  | n + 1, w, t, rs, cs, hn, h3, h4, h1, h2 => by
    have ih : ∀ t w rs' cs', 1 ≤ rs' → 1 ≤ cs' → rs' < 64 → cs' < 64 → rs' + cs' < rs + cs → TW T w (t + 1) rs' cs' ≤ TW T w t rs' cs' := fun t w rs' cs' a1 a2 a3 a4 a5 => TW_mono T n w t rs' cs' (by omega) a1 a2 a3 a4
    rw [TW_s T w (t + 1) h1 h2 h3 h4, TW_s T w t h1 h2 h3 h4]
    have a := OV_mono (w := w) h1 h2 h3 h4 (ih t)
    by_cases hal : pop (vIn T rs cs) < 2
    · rw [if_pos hal, if_pos hal]; exact Nat.le_refl _
    · rw [if_neg hal, if_neg hal, if_neg (by omega)]
      by_cases e : t = 0
      · rw [if_pos e]; omega
      · rw [if_neg e]
        have b := OV_mono (w := 1 - w) h1 h2 h3 h4 (ih (t - 1))
        rw [show t - 1 + 1 = t by omega] at b
        rw [show t + 1 - 1 = t by omega]
        omega
/-- the class's way: one change more than stands -/
theorem TW_step (T : Tab) {w t rs cs : Nat} (hw : w ≤ 1) (h1 : rs < 64) (h2 : cs < 64) (h3 : 1 ≤ rs) (h4 : 1 ≤ cs) : TW T w (t + 1) rs cs = if pop (vIn T rs cs) < 2 then 0 else min (OV T w (t + 1) rs cs) (TW T (1 - w) t rs cs) := by
  rw [TW_s T w (t + 1) h1 h2 h3 h4, TW_s T (1 - w) t h1 h2 h3 h4]
  by_cases hal : pop (vIn T rs cs) < 2
  · rw [if_pos hal, if_pos hal]
  · rw [if_neg hal, if_neg hal, if_neg hal, if_neg (by omega), show t + 1 - 1 = t by omega]
    by_cases e : t = 0
    · rw [if_pos e]
    · rw [if_neg e, show 1 - (1 - w) = w by omega]
      have m : ∀ w rs' cs', 1 ≤ rs' → 1 ≤ cs' → rs' < 64 → cs' < 64 → rs' + cs' < rs + cs → TW T w (t + 1) rs' cs' ≤ TW T w (t - 1) rs' cs' := fun w rs' cs' a1 a2 a3 a4 _ => by
        have x := TW_mono T _ w t rs' cs' (Nat.le_refl _) a1 a2 a3 a4
        have y := TW_mono T _ w (t - 1) rs' cs' (Nat.le_refl _) a1 a2 a3 a4
        rw [show t - 1 + 1 = t by omega] at y
        omega
      have := OV_mono (w := w) h1 h2 h3 h4 m
      omega
theorem TW_0 (T : Tab) (w : Nat) {rs cs : Nat} (h1 : rs < 64) (h2 : cs < 64) (h3 : 1 ≤ rs) (h4 : 1 ≤ cs) : TW T w 0 rs cs = if pop (vIn T rs cs) < 2 then 0 else OV T w 0 rs cs := by
  rw [TW_s T w 0 h1 h2 h3 h4]; rfl
/-- the areas of a table -/
def inT (T : Tab) (rs cs : Nat) : Prop := 1 ≤ rs ∧ rs < 2 ^ tR T ∧ 1 ≤ cs ∧ cs < 2 ^ tC T
theorem inT.r {T : Tab} (hT : TabOK T) {rs cs : Nat} (h : inT T rs cs) : rs < 64 ∧ cs < 64 := ⟨lt_64_of hT.1.2 h.2.1, lt_64_of hT.2.1.2 h.2.2.2⟩
theorem OV_eq {T : Tab} (hT : TabOK T) {t t' w rs cs : Nat} (hi : inT T rs cs) (h : ∀ w rs' cs', inT T rs' cs' → rs' + cs' < rs + cs → TW T w t' rs' cs' = TW T w t rs' cs') : OV T w t' rs cs = OV T w t rs cs := by
  obtain ⟨h1, h2⟩ := hi.r hT
  obtain ⟨h3, h5, h4, h6⟩ := hi
  unfold OV ov
  rw [spl_congr h1 (by omega) (fun q a b => h 0 q cs ⟨a, by omega, h4, h6⟩ (by omega)), spl_congr h2 (by omega) (fun q a b => h 1 rs q ⟨h3, h5, a, by omega⟩ (by omega))]
/-- where nothing got cheaper nothing gets cheaper any more -/
theorem TW_stable {T : Tab} (hT : TabOK T) {t : Nat} (h : ∀ w rs cs, w ≤ 1 → inT T rs cs → TW T w (t + 1) rs cs = TW T w t rs cs) : ∀ n w rs cs, w ≤ 1 → inT T rs cs → rs + cs ≤ n → TW T w (t + 2) rs cs = TW T w (t + 1) rs cs
  | 0, _, _, _, _, hi, a => by have := hi.1; omega
  | n + 1, w, rs, cs, hw, hi, hn => by
    obtain ⟨h1, h2⟩ := hi.r hT
    have h3 := hi.1
    have h4 := hi.2.2.1
    have e1 : OV T w (t + 2) rs cs = OV T w (t + 1) rs cs := by
      have k : ∀ w', w' ≤ 1 → ∀ rs' cs', inT T rs' cs' → rs' + cs' < rs + cs → TW T w' (t + 2) rs' cs' = TW T w' (t + 1) rs' cs' := fun w' hw' rs' cs' hi' a => TW_stable hT h n w' rs' cs' hw' hi' (by omega)
      unfold OV ov
      rw [spl_congr h1 (by omega) (fun q a b => k 0 (by omega) q cs ⟨a, by have := hi.2.1; omega, h4, hi.2.2.2⟩ (by omega)), spl_congr h2 (by omega) (fun q a b => k 1 (by omega) rs q ⟨h3, hi.2.1, a, by have := hi.2.2.2; omega⟩ (by omega))]
    have e2 : TW T (1 - w) (t + 1) rs cs = TW T (1 - w) t rs cs := h (1 - w) rs cs (by omega) hi
    rw [show t + 2 = t + 1 + 1 from rfl] at e1 ⊢
    rw [TW_step T hw h1 h2 h3 h4, TW_step T hw h1 h2 h3 h4, e1, e2]
/-! ===== the fewest cells told wrong ===== -/
def mx (T : Tab) (rs cs : Nat) : Nat → Nat
  | 0 => 0
  | v + 1 => max (mx T rs cs v) (nV T rs cs v)
def e0 (T : Tab) (rs cs : Nat) : Nat := nA T rs cs - mx T rs cs 10
def er (T : Tab) : Nat → Nat → Nat → Nat → Nat
  | 0 => fun _ _ _ => 0
  | n + 1 => fun b rs cs => min (e0 T rs cs) (min (if tA T ≤ b then spl 1 (fun q => er T n (b - tA T) q cs) rs else 1000000) (if tB T ≤ b then spl 1 (fun q => er T n (b - tB T) rs q) cs else 1000000))
theorem er_s (T : Tab) (n b rs cs : Nat) : er T (n + 1) b rs cs = min (e0 T rs cs) (min (if tA T ≤ b then spl 1 (fun q => er T n (b - tA T) q cs) rs else 1000000) (if tB T ≤ b then spl 1 (fun q => er T n (b - tB T) rs q) cs else 1000000)) := rfl
theorem er_eq (T : Tab) : ∀ n m b rs cs, rs < 64 → cs < 64 → 1 ≤ rs → 1 ≤ cs → rs + cs ≤ n → rs + cs ≤ m → er T n b rs cs = er T m b rs cs
  | 0, _, _, _, _, _, _, _, _, a, _ => by omega
  | _ + 1, 0, _, _, _, _, _, _, _, _, a => by omega
  | n + 1, m + 1, b, rs, cs, h1, h2, h3, h4, h5, h6 => by
    rw [er_s, er_s, spl_congr h1 (by omega) (fun q a b => er_eq T n m _ q cs (by omega) h2 a h4 (by omega) (by omega)), spl_congr h2 (by omega) (fun q a b => er_eq T n m _ rs q h1 (by omega) h3 a (by omega) (by omega))]
def ER (T : Tab) (b rs cs : Nat) : Nat := er T 128 b rs cs
def SA (T : Tab) (b rs cs : Nat) : Nat := if tA T ≤ b then spl 1 (fun q => ER T (b - tA T) q cs) rs else 1000000
def SB (T : Tab) (b rs cs : Nat) : Nat := if tB T ≤ b then spl 1 (fun q => ER T (b - tB T) rs q) cs else 1000000
theorem ER_s (T : Tab) (b : Nat) {rs cs : Nat} (h1 : rs < 64) (h2 : cs < 64) (h3 : 1 ≤ rs) (h4 : 1 ≤ cs) : ER T b rs cs = min (e0 T rs cs) (min (SA T b rs cs) (SB T b rs cs)) := by
  show er T (127 + 1) b rs cs = _
  rw [er_s, spl_congr h1 (by omega) (fun q a b => er_eq T 127 128 _ q cs (by omega) h2 a h4 (by omega) (by omega)), spl_congr h2 (by omega) (fun q a b => er_eq T 127 128 _ rs q h1 (by omega) h3 a (by omega) (by omega))]
  rfl
theorem e0_36 {T : Tab} (hT : TabOK T) (rs cs : Nat) : e0 T rs cs ≤ 36 := by
  have := nA_36 hT rs cs
  unfold e0; omega
theorem ER_36 {T : Tab} (hT : TabOK T) (b : Nat) {rs cs : Nat} (hi : inT T rs cs) : ER T b rs cs ≤ 36 := by
  obtain ⟨h1, h2⟩ := hi.r hT
  rw [ER_s T b h1 h2 hi.1 hi.2.2.1]
  have := e0_36 hT rs cs
  omega
theorem ER_mono {T : Tab} (hT : TabOK T) : ∀ n b rs cs, inT T rs cs → rs + cs ≤ n → ER T (b + 1) rs cs ≤ ER T b rs cs ∧ SA T (b + 1) rs cs ≤ SA T b rs cs ∧ SB T (b + 1) rs cs ≤ SB T b rs cs
  | 0, _, _, _, hi, a => by have := hi.1; omega
  | n + 1, b, rs, cs, hi, hn => by
    obtain ⟨h1, h2⟩ := hi.r hT
    have h3 := hi.1
    have h4 := hi.2.2.1
    have ca := hT.2.2.2.1
    have cb := hT.2.2.2.2
    have a : SA T (b + 1) rs cs ≤ SA T b rs cs := by
      unfold SA
      by_cases e : tA T ≤ b
      · rw [if_pos e, if_pos (by omega), show b + 1 - tA T = b - tA T + 1 by omega]
        exact spl_mono h1 (by omega) (fun q x y => (ER_mono hT n (b - tA T) q cs ⟨x, by have := hi.2.1; omega, h4, hi.2.2.2⟩ (by omega)).1)
      · rw [if_neg e]
        split
        · exact spl_far _ _ _
        · exact Nat.le_refl _
    have c : SB T (b + 1) rs cs ≤ SB T b rs cs := by
      unfold SB
      by_cases e : tB T ≤ b
      · rw [if_pos e, if_pos (by omega), show b + 1 - tB T = b - tB T + 1 by omega]
        exact spl_mono h2 (by omega) (fun q x y => (ER_mono hT n (b - tB T) rs q ⟨h3, hi.2.1, x, by have := hi.2.2.2; omega⟩ (by omega)).1)
      · rw [if_neg e]
        split
        · exact spl_far _ _ _
        · exact Nat.le_refl _
    refine ⟨?_, a, c⟩
    rw [ER_s T (b + 1) h1 h2 h3 h4, ER_s T b h1 h2 h3 h4]
    omega
theorem ER_step {T : Tab} (hT : TabOK T) {b rs cs : Nat} (hi : inT T rs cs) : ER T (b + 1) rs cs = min (ER T b rs cs) (min (SA T (b + 1) rs cs) (SB T (b + 1) rs cs)) := by
  obtain ⟨h1, h2⟩ := hi.r hT
  have m := ER_mono hT _ b rs cs hi (Nat.le_refl _)
  rw [ER_s T (b + 1) h1 h2 hi.1 hi.2.2.1, ER_s T b h1 h2 hi.1 hi.2.2.1]
  omega
theorem ER_0 {T : Tab} (hT : TabOK T) {rs cs : Nat} (hi : inT T rs cs) : ER T 0 rs cs = e0 T rs cs := by
  obtain ⟨h1, h2⟩ := hi.r hT
  have ca := hT.2.2.2.1
  have cb := hT.2.2.2.2
  have := e0_36 hT rs cs
  rw [ER_s T 0 h1 h2 hi.1 hi.2.2.1]
  unfold SA SB
  rw [if_neg (by omega), if_neg (by omega)]
  omega
/-- where a budget brought nothing, its parts bring nothing -/
theorem SA_same {T : Tab} (hT : TabOK T) {b rs cs : Nat} (hi : inT T rs cs) (hb : tA T ≤ b) (h : ∀ rs cs, inT T rs cs → ER T (b + 1 - tA T) rs cs = ER T (b - tA T) rs cs) : ER T b rs cs ≤ SA T (b + 1) rs cs := by
  obtain ⟨h1, h2⟩ := hi.r hT
  have e : SA T (b + 1) rs cs = SA T b rs cs := by
    unfold SA
    rw [if_pos hb, if_pos (by omega)]
    exact spl_congr h1 (by have := hi.1; omega) (fun q x y => h q cs ⟨x, by have := hi.2.1; omega, hi.2.2.1, hi.2.2.2⟩)
  rw [e, ER_s T b h1 h2 hi.1 hi.2.2.1]
  omega
theorem SB_same {T : Tab} (hT : TabOK T) {b rs cs : Nat} (hi : inT T rs cs) (hb : tB T ≤ b) (h : ∀ rs cs, inT T rs cs → ER T (b + 1 - tB T) rs cs = ER T (b - tB T) rs cs) : ER T b rs cs ≤ SB T (b + 1) rs cs := by
  obtain ⟨h1, h2⟩ := hi.r hT
  have e : SB T (b + 1) rs cs = SB T b rs cs := by
    unfold SB
    rw [if_pos hb, if_pos (by omega)]
    exact spl_congr h2 (by have := hi.2.2.1; omega) (fun q x y => h rs q ⟨hi.1, hi.2.1, x, by have := hi.2.2.2; omega⟩)
  rw [e, ER_s T b h1 h2 hi.1 hi.2.2.1]
  omega
