/-! ===== the pure part, 18: the piece that has a unit ===== -/
def cnt (P : Nat → Bool) : Nat → Nat → Nat
  | 0, _ => 0
  | j + 1, i => (if P i = true then 1 else 0) + cnt P j (i + 1)
theorem cnt_le (P : Nat → Bool) : ∀ (j i : Nat), cnt P j i ≤ j := by
  intro j
  induction j with
  | zero => intro i; exact Nat.le_refl 0
  | succ j ih =>
    intro i
    have := ih (i + 1)
    unfold cnt
    split <;> omega
theorem cnt_zero (P : Nat → Bool) : ∀ (j i : Nat), cnt P j i = 0 ↔ ∀ k, i ≤ k → k < i + j → ¬ P k = true := by
  intro j
  induction j with
  | zero => intro i; exact ⟨fun _ k h1 h2 => by omega, fun _ => rfl⟩
  | succ j ih =>
    intro i
    unfold cnt
    constructor
    · intro h k h1 h2 hk
      by_cases e : k = i
      · subst e; rw [if_pos hk] at h; omega
      · exact (ih (i + 1)).mp (by omega) k (by omega) (by omega) hk
    · intro h
      rw [if_neg (h i (Nat.le_refl _) (by omega)), (ih (i + 1)).mpr (fun k h1 h2 => h k (by omega) (by omega))]
theorem cnt_one (P : Nat → Bool) (v : Nat) (hv : P v = true) : ∀ (j i : Nat), i ≤ v → v < i + j → (∀ k, i ≤ k → k < i + j → P k = true → k = v) → cnt P j i = 1 := by
  intro j
  induction j with
  | zero => intro i h1 h2; omega
  | succ j ih =>
    intro i h1 h2 h3
    unfold cnt
    by_cases e : i = v
    · subst e
      rw [if_pos hv, (cnt_zero P j (i + 1)).mpr (fun k k1 k2 k3 => by have := h3 k (by omega) (by omega) k3; omega)]
    · rw [if_neg (fun h => e (h3 i (Nat.le_refl _) (by omega) h)), ih (i + 1) (by omega) (by omega) (fun k k1 k2 k3 => h3 k (by omega) (by omega) k3)]
theorem cnt_congr {P Q : Nat → Bool} : ∀ (j i : Nat), (∀ k, i ≤ k → k < i + j → P k = Q k) → cnt P j i = cnt Q j i := by
  intro j
  induction j with
  | zero => intro i _; rfl
  | succ j ih =>
    intro i h
    unfold cnt
    rw [h i (Nat.le_refl _) (by omega), ih (i + 1) (fun k h1 h2 => h k (by omega) (by omega))]
theorem cnt_add (P : Nat → Bool) : ∀ (j k i : Nat), cnt P (j + k) i = cnt P j i + cnt P k (i + j) := by
  intro j
  induction j with
  | zero => intro k i; rw [Nat.zero_add, Nat.add_zero]; exact (Nat.zero_add _).symm
  | succ j ih =>
    intro k i
    rw [show j + 1 + k = (j + k) + 1 by omega]
    show _ + cnt P (j + k) (i + 1) = _ + cnt P j (i + 1) + _
    rw [ih k (i + 1), show i + 1 + j = i + (j + 1) by omega]
    omega
section
variable {p : Nat → Nat} {F : Nat → Bool} {L : tL} {W : tWt} {w : Nat} {b : BD} {Y : GS}
theorem within_nI {u s z : Nat} (hu : u < 64) (hs : s < 64) (hz : z ≤ 64) : r_X5_isWithin (nI u) (nI s) (nI z) = if s ≤ u ∧ u < s + z then 1 else 0 := by
  unfold r_X5_isWithin
  rw [nI_add]
  by_cases h1 : s ≤ u
  · rw [if_neg (nI_nlt h1 (by omega))]
    by_cases h2 : u < s + z
    · rw [if_neg (nI_ge h2 (by omega)), if_pos ⟨h1, h2⟩]
    · rw [if_pos (nI_le (by omega) (by omega)), if_neg (by omega)]
  · rw [if_pos (nI_lt (by omega) (by omega)), if_neg (by omega)]
theorem isIn_nI (B : BG p F L W w b (Y.2.2.1 5)) {l s z : Nat} {q : Nat × Nat × Nat} (hq : L[l]? = some q) (hs : s < 64) (hz : z ≤ 64) : r_X3_isIn b (nI l) (nI s) (nI z) = if q.2.2 < s + z ∧ s < q.2.2 + nd q.2.1 then 1 else 0 := by
  have hl := get_lt hq
  have h16 := B.1.2.2.2.2.1
  have q4 := B.1.2.2.2.1 q (get_mem hq)
  have hn := isP_le (isP_nd q.2.1)
  obtain ⟨-, -, b3, b4⟩ := B.2.1.2.2.2.2.1 l q hq
  unfold r_X3_isIn
  rw [has3_t B.2.1.2.2.1 h16 hl, if_neg (by decide), nI_clamp (by omega), b3, b4, nI_add, nI_add]
  by_cases h1 : q.2.2 < s + z
  · rw [if_neg (nI_ge h1 (by omega))]
    by_cases h2 : s < q.2.2 + nd q.2.1
    · rw [if_neg (nI_ge h2 (by omega)), if_pos ⟨h1, h2⟩]
    · rw [if_pos (nI_le (by omega) (by omega)), if_neg (by omega)]
  · rw [if_pos (nI_le (by omega) (by omega)), if_neg (by omega)]
/-- loan l has a unit of the part -/
def inB (L : tL) (s z : Nat) (l : Nat) : Bool := match L[l]? with
  | some q => decide (q.2.2 < s + z ∧ s < q.2.2 + nd q.2.1)
  | none => false
theorem inB_t {l s z : Nat} {q : Nat × Nat × Nat} (hq : L[l]? = some q) : inB L s z l = true ↔ q.2.2 < s + z ∧ s < q.2.2 + nd q.2.1 := by
  unfold inB
  rw [hq]
  exact decide_eq_true_iff
theorem lp_countIn (B : BG p F L W w b (Y.2.2.1 5)) {s z : Nat} (hs : s < 64) (hz : z ≤ 64) : ∀ (j i a : Nat), i + j = L.length → lp_X3_countIn_5 b (nI s) (nI z) j i (nI a) = nI (a + cnt (inB L s z) j i) ∧ lp_X8_loansIn_5 Y (nI z) (nI s) j i (nI a) = some (nI (a + cnt (inB L s z) j i)) := by
  intro j
  induction j with
  | zero => intro i a hi; exact ⟨rfl, rfl⟩
  | succ j ih =>
    intro i a hi
    have h16 := B.1.2.2.2.2.1
    obtain ⟨q, hq⟩ := get_ex (L := L) (l := i) (by omega)
    have q4 := B.1.2.2.2.1 q (get_mem hq)
    have hn := isP_le (isP_nd q.2.1)
    have gq := (B.2.2.1.2.2.2.2.1 i q hq).2.2
    have gst : Y.2.2.1 5 q.2.2 = nI (nd q.2.1) := by rw [B.2.2.1.1 _ q4.2.2.2.1, q4.2.2.2.2]
    rw [lp_X3_countIn_5, lp_X8_loansIn_5, isIn_nI B hq hs hz, if_pos (show 97 + i < 129 by omega)]
    simp only [gq, if_pos (inR_nI (show q.2.2 < 129 by omega) (show 129 < 2 ^ 31 by omega)), nI_clamp (show q.2.2 < 2 ^ 31 by omega), gst, nI_add, Int32.add_zero]
    unfold cnt
    by_cases h1 : q.2.2 < s + z
    · rw [if_neg (nI_ge h1 (show s + z < 2 ^ 31 by omega))]
      by_cases h2 : s < q.2.2 + nd q.2.1
      · rw [if_pos (⟨h1, h2⟩ : q.2.2 < s + z ∧ s < q.2.2 + nd q.2.1), if_neg (by decide), if_neg (nI_ge h2 (show q.2.2 + nd q.2.1 < 2 ^ 31 by omega)), if_pos ((inB_t hq).mpr ⟨h1, h2⟩), nI_1, show a + (1 + cnt (inB L s z) j (i + 1)) = a + 1 + cnt (inB L s z) j (i + 1) by omega]
        exact ih (i + 1) (a + 1) (by omega)
      · rw [if_neg (show ¬ (q.2.2 < s + z ∧ s < q.2.2 + nd q.2.1) by omega), if_pos rfl, if_pos (nI_le (show q.2.2 + nd q.2.1 ≤ s by omega) (by omega)), if_neg (fun h => by have := (inB_t hq).mp h; omega), Nat.zero_add]
        exact ih (i + 1) a (by omega)
    · rw [if_pos (nI_le (show s + z ≤ q.2.2 by omega) (by omega)), if_neg (show ¬ (q.2.2 < s + z ∧ s < q.2.2 + nd q.2.1) by omega), if_pos rfl, if_neg (fun h => by have := (inB_t hq).mp h; omega), Nat.zero_add]
      exact ih (i + 1) a (by omega)
/-- how many loans have a unit of a part -/
theorem countIn_ok (B : BG p F L W w b (Y.2.2.1 5)) {s z : Nat} (hs : s < 64) (hz : z ≤ 64) : r_X3_countIn b (nI s) (nI z) = nI (cnt (inB L s z) L.length 0) ∧ m_X8_loansIn Y (nI s) (nI z) = some (nI (cnt (inB L s z) L.length 0)) := by
  have h16 := B.1.2.2.2.2.1
  obtain ⟨h1, h2⟩ := lp_countIn B hs hz L.length 0 0 (by omega)
  rw [Nat.zero_add] at h1 h2
  unfold r_X3_countIn m_X8_loansIn
  rw [B.2.1.2.2.1, B.2.2.1.2.2.1, nI_clamp (by omega)]
  refine ⟨h1, ?_⟩
  have h2' : lp_X8_loansIn_5 Y (nI z) (nI s) L.length 0 0 = _ := h2
  rw [h2']
  rfl
/-- the piece of a unit: free, or a loan's -/
theorem owner (B : BG p F L W w b (Y.2.2.1 5)) {u : Nat} (hu : u < 64) : ∃ v, v ≤ u ∧ u < v + p v ∧ v < 64 ∧ ((F v = true ∧ ∀ (l : Nat) (q : Nat × Nat × Nat), L[l]? = some q → ¬ (q.2.2 ≤ u ∧ u < q.2.2 + nd q.2.1)) ∨
    (F v = false ∧ ∃ (l : Nat) (q : Nat × Nat × Nat), L[l]? = some q ∧ q.2.2 = v ∧ ∀ (k : Nat) (r : Nat × Nat × Nat), L[k]? = some r → (r.2.2 ≤ u ∧ u < r.2.2 + nd r.2.1) → k = l)) := by
  obtain ⟨T, S2, S3, S4, -⟩ := B.1
  obtain ⟨v, h1, h2⟩ := T.2.1 u hu
  have own : ∀ (k : Nat) (r : Nat × Nat × Nat), L[k]? = some r → (r.2.2 ≤ u ∧ u < r.2.2 + nd r.2.1) → r.2.2 = v := fun k r hr h => by
    have q4 := S4 r (get_mem hr)
    exact T.uniq hu h.1 (by rw [q4.2.2.2.2]; exact h.2) h1 h2
  refine ⟨v, h1, h2, by omega, ?_⟩
  cases hF : F v with
  | true =>
    refine Or.inl ⟨rfl, fun l q hq h => ?_⟩
    have h3 := own l q hq h
    have := ((S2 v (by omega)).mpr ⟨q, get_mem hq, h3⟩).2
    rw [hF] at this
    cases this
  | false =>
    obtain ⟨q, hq, hv⟩ := (S2 v (by omega)).mp ⟨by omega, hF⟩
    obtain ⟨l, hl⟩ := mem_get hq
    exact Or.inr ⟨rfl, l, q, hl, hv, fun k r hr h => nodup_at S3 hr hl (by rw [own k r hr h, hv])⟩
theorem lp_holder_none (B : BG p F L W w b (Y.2.2.1 5)) {u : Nat} (hu : u < 64) (h : ∀ (l : Nat) (q : Nat × Nat × Nat), L[l]? = some q → ¬ (q.2.2 ≤ u ∧ u < q.2.2 + nd q.2.1)) : ∀ (j i : Nat), i + j = L.length → lp_X3_holderOf_2 b (nI u) j i = none := by
  intro j
  induction j with
  | zero => intro i hi; rfl
  | succ j ih =>
    intro i hi
    obtain ⟨q, hq⟩ := get_ex (L := L) (l := i) (by omega)
    have e : r_X3_isIn b (nI i) (nI u) 1 = 0 := by
      have := isIn_nI B hq hu (show 1 ≤ 64 by omega)
      rw [if_neg (fun z => h i q hq ⟨by omega, z.2⟩)] at this
      exact this
    rw [lp_X3_holderOf_2, e, if_pos rfl]
    exact ih (i + 1) (by omega)
theorem lp_holder_some (B : BG p F L W w b (Y.2.2.1 5)) {u l : Nat} {q : Nat × Nat × Nat} (hu : u < 64) (hq : L[l]? = some q) (hin : q.2.2 ≤ u ∧ u < q.2.2 + nd q.2.1) (h : ∀ (k : Nat) (r : Nat × Nat × Nat), L[k]? = some r → (r.2.2 ≤ u ∧ u < r.2.2 + nd r.2.1) → k = l) : ∀ (j i : Nat), i + j = L.length → i ≤ l → lp_X3_holderOf_2 b (nI u) j i = some (nI l) := by
  intro j
  induction j with
  | zero => intro i hi hl; have := get_lt hq; omega
  | succ j ih =>
    intro i hi hl
    obtain ⟨r, hr⟩ := get_ex (L := L) (l := i) (by omega)
    have e := isIn_nI B hr hu (show 1 ≤ 64 by omega)
    have e' : r_X3_isIn b (nI i) (nI u) 1 = if r.2.2 < u + 1 ∧ u < r.2.2 + nd r.2.1 then 1 else 0 := e
    rw [lp_X3_holderOf_2]
    by_cases c : i = l
    · subst c
      rw [hq] at hr
      obtain rfl := Option.some.inj hr
      rw [if_pos (show q.2.2 < u + 1 ∧ u < q.2.2 + nd q.2.1 from ⟨by omega, hin.2⟩)] at e'
      rw [e', if_neg (by decide)]
    · rw [if_neg (fun z => c (h i r hr ⟨by have := z.1; omega, z.2⟩))] at e'
      rw [e', if_pos rfl]
      exact ih (i + 1) (by omega) (by omega)
theorem lp_startOf_c (T : TI p F) (RB : RC p F b) {u v : Nat} (hu : u < 64) (h1 : v ≤ u) (h2 : u < v + p v) (hF : F v = true) : ∀ (j i : Nat), i + j = 64 → i ≤ v → lp_X5_startOf_2 b (nI u) j i = some (nI v) := by
  intro j
  induction j with
  | zero => intro i hi hl; omega
  | succ j ih =>
    intro i hi hl
    have hi64 : i < 64 := by omega
    have hp := T.ple hi64
    have e := within_nI (z := if F i = true then p i else 0) hu hi64 (by split <;> omega)
    rw [lp_X5_startOf_2, RB i hi64]
    by_cases c : i = v
    · subst c
      rw [if_pos (show i ≤ u ∧ u < i + (if F i = true then p i else 0) by rw [if_pos hF]; exact ⟨h1, h2⟩)] at e
      rw [e, if_neg (by decide)]
    · have hno : ¬ (i ≤ u ∧ u < i + (if F i = true then p i else 0)) := by
        rintro ⟨z1, z2⟩
        by_cases z3 : F i = true
        · rw [if_pos z3] at z2
          exact c (T.uniq hu z1 z2 h1 h2)
        · rw [if_neg z3] at z2; omega
      rw [if_neg hno] at e
      rw [e, if_pos rfl]
      exact ih (i + 1) (by omega) (by omega)
theorem lp_countWith (T : TI p F) (RB : RC p F b) {u : Nat} (hu : u < 64) : ∀ (j i a : Nat), i + j = 64 → lp_X5_countWith_4 b (nI u) j i (nI a) = nI (a + cnt (fun k => F k && decide (k ≤ u ∧ u < k + p k)) j i) := by
  intro j
  induction j with
  | zero => intro i a hi; rfl
  | succ j ih =>
    intro i a hi
    have hi64 : i < 64 := by omega
    have hp := T.ple hi64
    have e := within_nI (z := if F i = true then p i else 0) hu hi64 (by split <;> omega)
    rw [lp_X5_countWith_4, RB i hi64]
    unfold cnt
    by_cases c : F i = true ∧ i ≤ u ∧ u < i + p i
    · rw [if_pos (show i ≤ u ∧ u < i + (if F i = true then p i else 0) by rw [if_pos c.1]; exact c.2)] at e
      rw [e, if_neg (by decide), if_pos (show (F i && decide (i ≤ u ∧ u < i + p i)) = true by rw [c.1, decide_eq_true c.2]; rfl), nI_1, show a + (1 + cnt (fun k => F k && decide (k ≤ u ∧ u < k + p k)) j (i + 1)) = a + 1 + cnt (fun k => F k && decide (k ≤ u ∧ u < k + p k)) j (i + 1) by omega]
      exact ih (i + 1) (a + 1) (by omega)
    · have hno : ¬ (i ≤ u ∧ u < i + (if F i = true then p i else 0)) := by
        rintro ⟨z1, z2⟩
        by_cases z3 : F i = true
        · rw [if_pos z3] at z2; exact c ⟨z3, z1, z2⟩
        · rw [if_neg z3] at z2; omega
      rw [if_neg hno] at e
      rw [e, if_pos rfl, if_neg (fun h => c (by
        rw [Bool.and_eq_true] at h
        exact ⟨h.1, of_decide_eq_true h.2⟩)), Nat.zero_add]
      exact ih (i + 1) a (by omega)
/-- the piece that has a unit: the class's answers and the reference's -/
theorem piece_ok (B : BG p F L W w b (Y.2.2.1 5)) {u : Nat} (hu : u < 64) : ∃ v, v ≤ u ∧ u < v + p v ∧ v < 64 ∧ r_X0_pieceStart b (nI u) = nI v ∧ r_X0_pieceSize b (nI u) = nI (p v) ∧ m_X8_startOf Y (nI u) = some (nI v) ∧
    ((F v = true ∧ r_X3_holderOf b (nI u) = -1 ∧ m_X8_loanAt Y (nI v) = some (-1)) ∨ (F v = false ∧ ∃ l, l < L.length ∧ r_X3_holderOf b (nI u) = nI l ∧ m_X8_loanAt Y (nI v) = some (nI l))) := by
  have h16 := B.1.2.2.2.2.1
  obtain ⟨v, h1, h2, h3, h4⟩ := owner B hu
  have T := B.1.1
  have hp := T.ple h3
  have st : ∀ (d fuel : Nat), d < fuel → v + d ≤ u → lp_X8_startOf_2 Y fuel (nI (v + d)) = some (nI v) := by
    intro d
    induction d with
    | zero =>
      intro fuel hf hd
      obtain ⟨fuel, rfl⟩ : ∃ k, fuel = k + 1 := ⟨fuel - 1, by omega⟩
      simp only [Nat.add_zero]
      rw [lp_X8_startOf_2, if_pos (inR_nI (by omega) (by omega)), nI_clamp (by omega), B.2.2.1.1 v h3, if_neg (nI_ne0 (by omega) (by omega))]
    | succ d ih =>
      intro fuel hf hd
      obtain ⟨fuel, rfl⟩ : ∃ k, fuel = k + 1 := ⟨fuel - 1, by omega⟩
      have hz := T.2.2.1 v (v + (d + 1)) (by omega) (by omega) (by omega)
      rw [lp_X8_startOf_2, if_pos (inR_nI (by omega) (by omega)), nI_clamp (by omega), B.2.2.1.1 _ (by omega), hz, if_pos (show (nI 0 : Int32) = 0 from rfl), show nI (v + (d + 1)) + -1 = nI (v + d) by rw [← Int32.sub_eq_add_neg]; exact nI_pred _]
      exact ih fuel (by omega) (by omega)
  have hs : m_X8_startOf Y (nI u) = some (nI v) := by
    unfold m_X8_startOf
    have := st (u - v) 1000 (by omega) (by omega)
    rw [show v + (u - v) = u by omega] at this
    rw [this]; rfl
  have hn : r_X3_holderOf b (nI u) = if lp_X3_holderOf_2 b (nI u) L.length 0 = none then -1 else (lp_X3_holderOf_2 b (nI u) L.length 0).getD 0 := by
    unfold r_X3_holderOf
    rw [B.2.1.2.2.1, nI_clamp (by omega)]
  rcases h4 with ⟨hF, hno⟩ | ⟨hF, l, q, hq, hv, hun⟩
  · have e1 := lp_holder_none B hu hno L.length 0 (by omega)
    rw [e1, if_pos rfl] at hn
    have e2 : r_X5_startOf b (nI u) = nI v := by
      unfold r_X5_startOf
      rw [lp_startOf_c T B.2.1.1 hu h1 h2 hF 64 0 (by omega) (by omega)]
      rfl
    refine ⟨v, h1, h2, h3, ?_, ?_, hs, Or.inl ⟨hF, hn, ?_⟩⟩
    · unfold r_X0_pieceStart
      rw [hn, if_pos (by decide), e2]
    · unfold r_X0_pieceSize
      rw [hn, if_pos (by decide), e2, sizeAt_nI h3, B.2.1.1.t h3 hF]
    · rcases loanAt_cases B.2.2.1.2.2.1 h16 (nI v) with ⟨z, -⟩ | ⟨l, z1, z2, z3, z4⟩
      · exact z
      · have := ((B.1.HL B.2.2.1 v h3).mp ⟨l, z1, z2⟩).2
        rw [hF] at this; cases this
  · have q4 := B.1.2.2.2.1 q (get_mem hq)
    have hl := get_lt hq
    have hpv : p v = nd q.2.1 := by rw [← hv, q4.2.2.2.2]
    have e1 := lp_holder_some B hu hq ⟨by omega, by omega⟩ hun L.length 0 (by omega) (by omega)
    rw [e1] at hn
    have hn' : r_X3_holderOf b (nI u) = nI l := hn
    obtain ⟨l1, l2, l3, l4⟩ := loan_at B.1 B.2.1 hq
    refine ⟨v, h1, h2, h3, ?_, ?_, hs, Or.inr ⟨hF, l, hl, hn', ?_⟩⟩
    · unfold r_X0_pieceStart
      rw [hn', if_neg (nI_pos (by omega)), l3, hv]
    · unfold r_X0_pieceSize
      rw [hn', if_neg (nI_pos (by omega)), l4, hpv]
    · rcases loanAt_cases B.2.2.1.2.2.1 h16 (nI v) with ⟨-, z⟩ | ⟨k, z1, z2, z3, z4⟩
      · exact absurd (by rw [(B.2.2.1.2.2.2.2.1 l q hq).2.2, hv]) (z l hl)
      · obtain ⟨r, hr⟩ := get_ex z1
        have z5 := (B.2.2.1.2.2.2.2.1 k r hr).2.2
        have r4 := B.1.2.2.2.1 r (get_mem hr)
        rw [z2] at z5
        have z6 := (nI_eq (by omega) (by omega)).mp z5
        have : k = l := nodup_at B.1.2.2.1 hr hq (by rw [← z6, hv])
        rw [z4, this]
/-- promise 12 -/
theorem q_pieceOf (B : BG p F L W w b (Y.2.2.1 5)) (x y : Int32) : QB (e_X7_pieceOf b x y) (r_X7_pieceOf b x y) "java/lang/IndexOutOfBoundsException" "java/lang/IllegalArgumentException" Y (m_X8_pieceOf Y x y) := by
  unfold e_X7_pieceOf r_X7_pieceOf m_X8_pieceOf r_X7_isUnit
  rcases in_cases (x := x) (n := 63) (by omega) with ⟨⟨u, hu, rfl⟩, h⟩ | ⟨h1, h⟩
  · have h' : m_X8_in (nI u) 0 63 = some 1 := h
    obtain ⟨v, p1, p2, p3, p4, p5, p6, p7⟩ := piece_ok B (show u < 64 by omega)
    have hp := B.1.1.ple p3
    have gv : Y.2.2.1 5 v = nI (p v) := B.2.2.1.1 v p3
    simp only [h', bnd1_some, if_neg (show ¬ (1 : Int32) = 0 by decide), if_neg (nI_pos (show u < 2 ^ 31 by omega)), if_neg (geL (k := 64) (x := 64) rfl (show u < 64 by omega) (by omega)), p4, p5, p6, if_pos (inR_nI (show v < 129 by omega) (show 129 < 2 ^ 31 by omega)), nI_clamp (show v < 2 ^ 31 by omega), gv]
    by_cases e0 : y = 0
    · subst e0
      simp only [if_true]
      exact Or.inl ⟨rfl, rfl⟩
    · simp only [if_neg e0]
      by_cases e1 : y = 1
      · subst e1
        simp only [if_true]
        exact Or.inl ⟨rfl, rfl⟩
      · simp only [if_neg e1]
        by_cases e2 : y = 2
        · subst e2
          simp only [if_true]
          rcases p7 with ⟨-, z1, z2⟩ | ⟨-, l, -, z1, z2⟩
          · rw [z1, z2]; exact Or.inl ⟨rfl, rfl⟩
          · rw [z1, z2]; exact Or.inl ⟨rfl, rfl⟩
        · simp only [if_neg e2]
          by_cases e3 : y = 3
          · subst e3
            simp only [if_true]
            by_cases e4 : p v = 64
            · rw [e4]
              exact Or.inl ⟨rfl, rfl⟩
            · have hal := B.1.1.al p3 (by omega)
              simp only [if_neg (neL (k := 64) (x := 64) rfl (show p v < 2 ^ 31 by omega) (by omega) e4)]
              rw [xor_nI p3 hal.1 (by omega) hal.2, twinOf_nI p3 hal.1 (by omega)]
              exact Or.inl ⟨rfl, rfl⟩
          · simp only [if_neg e3]
            exact Or.inr (Or.inr ⟨rfl, rfl⟩)
  · have h' : m_X8_in x 0 63 = some 0 := h
    simp only [h', bnd1_some, if_true]
    by_cases h2 : x < 0
    · simp only [if_pos h2, if_true]
      exact Or.inr (Or.inl ⟨rfl, rfl⟩)
    · obtain ⟨j, hj, rfl⟩ := nI_of h2
      have h3 : (64 : Int32) ≤ nI j := leL (k := 64) (x := 64) rfl (Nat.not_lt.mp (fun h => h1 j (by omega) rfl)) hj
      simp only [if_neg h2, if_pos h3, if_true]
      exact Or.inr (Or.inl ⟨rfl, rfl⟩)
end
