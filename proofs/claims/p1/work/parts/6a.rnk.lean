/-! ===== the pure part, 21: names by what they hold ===== -/
def sm (f : Nat → Nat) : Nat → Nat → Nat
  | 0, _ => 0
  | j + 1, i => f i + sm f j (i + 1)
theorem sm_le {f : Nat → Nat} {B : Nat} (h : ∀ k, f k ≤ B) : ∀ (j i : Nat), sm f j i ≤ B * j := by
  intro j
  induction j with
  | zero => intro i; exact Nat.zero_le _
  | succ j ih =>
    intro i
    have h1 := ih (i + 1)
    have h2 := h i
    show f i + sm f j (i + 1) ≤ _
    rw [Nat.mul_succ]
    omega
theorem sm_zero {f : Nat → Nat} : ∀ (j i : Nat), sm f j i = 0 ↔ ∀ k, i ≤ k → k < i + j → f k = 0 := by
  intro j
  induction j with
  | zero => intro i; exact ⟨fun _ k h1 h2 => by omega, fun _ => rfl⟩
  | succ j ih =>
    intro i
    show f i + sm f j (i + 1) = 0 ↔ _
    constructor
    · intro h k h1 h2
      by_cases e : k = i
      · subst e; omega
      · exact (ih (i + 1)).mp (by omega) k (by omega) (by omega)
    · intro h
      rw [h i (Nat.le_refl _) (by omega), (ih (i + 1)).mpr (fun k h1 h2 => h k (by omega) (by omega))]
theorem cnt_plus {P P' : Nat → Bool} {v : Nat} (h : ∀ k, ¬ k = v → P' k = P k) (h1 : P v = false) (h2 : P' v = true) : ∀ (j i : Nat), i ≤ v → v < i + j → cnt P' j i = cnt P j i + 1 := by
  intro j
  induction j with
  | zero => intro i h1 h2; omega
  | succ j ih =>
    intro i g1 g2
    show (if P' i = true then 1 else 0) + cnt P' j (i + 1) = (if P i = true then 1 else 0) + cnt P j (i + 1) + 1
    by_cases e : i = v
    · subst e
      rw [if_pos h2, if_neg (by rw [h1]; decide), cnt_congr (P := P') (Q := P) j (i + 1) (fun k k1 _ => h k (by omega))]
      omega
    · rw [h i e, ih (i + 1) (by omega) (by omega)]
      omega
theorem cnt_mono {P Q : Nat → Bool} (h : ∀ k, P k = true → Q k = true) : ∀ (j i : Nat), cnt P j i ≤ cnt Q j i := by
  intro j
  induction j with
  | zero => intro i; exact Nat.le_refl _
  | succ j ih =>
    intro i
    have := ih (i + 1)
    show (if P i = true then 1 else 0) + cnt P j (i + 1) ≤ (if Q i = true then 1 else 0) + cnt Q j (i + 1)
    by_cases c : P i = true
    · rw [if_pos c, if_pos (h i c)]; omega
    · rw [if_neg c]; split <;> omega
theorem cnt_lt {P Q : Nat → Bool} {v : Nat} (h : ∀ k, P k = true → Q k = true) (h1 : ¬ P v = true) (h2 : Q v = true) : ∀ (j i : Nat), i ≤ v → v < i + j → cnt P j i < cnt Q j i := by
  intro j
  induction j with
  | zero => intro i g1 g2; omega
  | succ j ih =>
    intro i g1 g2
    show (if P i = true then 1 else 0) + cnt P j (i + 1) < (if Q i = true then 1 else 0) + cnt Q j (i + 1)
    by_cases e : i = v
    · subst e
      have := cnt_mono h j (i + 1)
      rw [if_neg h1, if_pos h2]; omega
    · have := ih (i + 1) (by omega) (by omega)
      by_cases c : P i = true
      · rw [if_pos c, if_pos (h i c)]; omega
      · rw [if_neg c]; split <;> omega
/-- what a loan holds for a name -/
def hz (L : tL) (x l : Nat) : Nat := match L[l]? with
  | some q => if q.1 = x then nd q.2.1 else 0
  | none => 0
def HZ (L : tL) (x : Nat) : Nat := sm (hz L x) L.length 0
def ahead (L : tL) (x o : Nat) : Bool := decide (HZ L x < HZ L o ∨ (HZ L o = HZ L x ∧ o < x))
def rk (L : tL) (x : Nat) : Nat := cnt (ahead L x) 100 0
def nmA (L : tL) (l : Nat) : Nat := match L[l]? with
  | some q => q.1
  | none => 0
def fst1 (L : tL) (l : Nat) : Bool := decide (∀ i, i < l → ¬ nmA L i = nmA L l)
theorem hz_le (L : tL) (x l : Nat) : hz L x l ≤ 64 := by
  unfold hz
  split
  · split
    · exact isP_le (isP_nd _)
    · omega
  · omega
theorem HZ_le {L : tL} (h : L.length ≤ 16) (x : Nat) : HZ L x ≤ 1024 := by
  have := sm_le (hz_le L x) L.length 0
  unfold HZ
  have h2 : 64 * L.length ≤ 1024 := by omega
  omega
theorem HZ_pos {L : tL} (x : Nat) : 0 < HZ L x ↔ ∃ l, l < L.length ∧ nmA L l = x := by
  constructor
  · intro h
    apply Classical.byContradiction
    intro hn
    have : HZ L x = 0 := (sm_zero L.length 0).mpr (fun k _ hk => by
      obtain ⟨q, hq⟩ := get_ex (L := L) (l := k) (by omega)
      unfold hz
      rw [hq]
      show (if q.1 = x then nd q.2.1 else 0) = 0
      rw [if_neg]
      intro e
      exact hn ⟨k, by omega, by unfold nmA; rw [hq]; exact e⟩)
    omega
  · rintro ⟨l, hl, h⟩
    apply Classical.byContradiction
    intro hn
    have h0 := (sm_zero L.length 0).mp (show HZ L x = 0 by omega) l (Nat.zero_le _) (by omega)
    obtain ⟨q, hq⟩ := get_ex hl
    unfold hz at h0
    unfold nmA at h
    rw [hq] at h0 h
    have h' : q.1 = x := h
    have h0' : (if q.1 = x then nd q.2.1 else 0) = 0 := h0
    rw [if_pos h'] at h0'
    have := isP_pos (isP_nd q.2.1)
    omega
theorem ahead_iff {L : tL} {x o : Nat} : ahead L x o = true ↔ HZ L x < HZ L o ∨ (HZ L o = HZ L x ∧ o < x) := decide_eq_true_iff
/-- two names of the same rank are the same -/
theorem rk_inj {L : tL} {x y : Nat} (hx : x < 100) (hy : y < 100) (h : rk L x = rk L y) : x = y := by
  apply Classical.byContradiction
  intro hne
  have key : ∀ x y : Nat, x < 100 → ahead L y x = true → rk L x < rk L y := by
    intro x y hx hxy
    have h1 := ahead_iff.mp hxy
    refine cnt_lt (P := ahead L x) (Q := ahead L y) (v := x) (fun k hk => ?_) ?_ hxy 100 0 (Nat.zero_le _) (by omega)
    · have h2 := ahead_iff.mp hk
      rw [ahead_iff]
      omega
    · rw [ahead_iff]
      omega
  by_cases c : ahead L y x = true
  · have := key x y hx c; omega
  · have : ahead L x y = true := by
      rw [ahead_iff] at c ⊢
      omega
    have := key y x hy this
    omega
/-- to count first loans is to count names -/
theorem cnt_names {L : tL} (hnm : ∀ l, l < L.length → nmA L l < 100) (Q : Nat → Bool) : ∀ m, m ≤ L.length → cnt (fun l => fst1 L l && Q (nmA L l)) m 0 = cnt (fun o => Q o && decide (∃ l, l < m ∧ nmA L l = o)) 100 0 := by
  intro m
  induction m with
  | zero =>
    intro _
    rw [(cnt_zero _ 100 0).mpr (fun k _ _ h => by
      rw [Bool.and_eq_true] at h
      obtain ⟨l, hl, -⟩ := of_decide_eq_true h.2
      omega)]
    rfl
  | succ m ih =>
    intro hm
    rw [cnt_add _ m 1 0, ih (by omega), Nat.zero_add]
    show _ + ((if (fst1 L m && Q (nmA L m)) = true then 1 else 0) + 0) = _
    have split1 : ∀ o, (∃ l, l < m + 1 ∧ nmA L l = o) ↔ ((∃ l, l < m ∧ nmA L l = o) ∨ nmA L m = o) := by
      intro o
      constructor
      · rintro ⟨l, hl, h⟩
        by_cases e : l = m
        · subst e; exact Or.inr h
        · exact Or.inl ⟨l, by omega, h⟩
      · rintro (⟨l, hl, h⟩ | h)
        · exact ⟨l, by omega, h⟩
        · exact ⟨m, by omega, h⟩
    by_cases c : (fst1 L m && Q (nmA L m)) = true
    · rw [if_pos c]
      rw [Bool.and_eq_true] at c
      have c1 := of_decide_eq_true c.1
      have hA : ∀ k, ¬ k = nmA L m → (fun o => Q o && decide (∃ l, l < m + 1 ∧ nmA L l = o)) k = (fun o => Q o && decide (∃ l, l < m ∧ nmA L l = o)) k := fun k hk => by
        show (Q k && decide (∃ l, l < m + 1 ∧ nmA L l = k)) = (Q k && decide (∃ l, l < m ∧ nmA L l = k))
        congr 1
        rw [decide_eq_decide, split1 k]
        exact ⟨fun h => h.resolve_right (fun e => hk e.symm), Or.inl⟩
      have hB : (fun o => Q o && decide (∃ l, l < m ∧ nmA L l = o)) (nmA L m) = false := by
        show (Q (nmA L m) && decide (∃ l, l < m ∧ nmA L l = nmA L m)) = false
        rw [decide_eq_false (fun ⟨l, hl, h⟩ => c1 l hl h), Bool.and_false]
      have hC : (fun o => Q o && decide (∃ l, l < m + 1 ∧ nmA L l = o)) (nmA L m) = true := by
        show (Q (nmA L m) && decide (∃ l, l < m + 1 ∧ nmA L l = nmA L m)) = true
        rw [c.2, decide_eq_true ⟨m, by omega, rfl⟩]
        rfl
      rw [cnt_plus hA hB hC 100 0 (Nat.zero_le _) (by have := hnm m (by omega); omega)]
    · rw [if_neg c]
      simp only [Nat.add_zero]
      refine cnt_congr 100 0 (fun k _ _ => ?_)
      show (Q k && decide (∃ l, l < m ∧ nmA L l = k)) = (Q k && decide (∃ l, l < m + 1 ∧ nmA L l = k))
      cases hQ : Q k with
      | false => rfl
      | true =>
        show decide _ = decide _
        rw [decide_eq_decide, split1 k]
        refine ⟨Or.inl, fun h => h.elim id (fun e => ?_)⟩
        apply Classical.byContradiction
        intro hn
        apply c
        rw [e, hQ, Bool.and_true]
        exact decide_eq_true (fun i hi h => hn ⟨i, hi, h.trans e⟩)
section
variable {p : Nat → Nat} {F : Nat → Bool} {L : tL} {W : tWt} {w : Nat} {b : BD} {Y : GS}
theorem nm_at (B : BG p F L W w b (Y.2.2.1 5)) {l : Nat} (hl : l < L.length) : r_X3_nameAt b (nI l) = nI (nmA L l) ∧ nmA L l < 100 := by
  obtain ⟨q, hq⟩ := get_ex hl
  have h := (loan_at B.1 B.2.1 hq).1
  have q4 := B.1.2.2.2.1 q (get_mem hq)
  unfold nmA
  rw [hq]
  exact ⟨h, q4.1⟩
theorem lp_sizesOf (B : BG p F L W w b (Y.2.2.1 5)) {x : Nat} (hx : x < 100) : ∀ (j i a : Nat), i + j = L.length → lp_X3_sizesOf_4 b (nI x) j i (nI a) = nI (a + sm (hz L x) j i) := by
  intro j
  induction j with
  | zero => intro i a hi; rfl
  | succ j ih =>
    intro i a hi
    obtain ⟨q, hq⟩ := get_ex (L := L) (l := i) (by omega)
    obtain ⟨l1, l2, l3, l4⟩ := loan_at B.1 B.2.1 hq
    have q4 := B.1.2.2.2.1 q (get_mem hq)
    have e : hz L x i = if q.1 = x then nd q.2.1 else 0 := by unfold hz; rw [hq]
    rw [lp_X3_sizesOf_4, l1, l4]
    show _ = nI (a + (hz L x i + sm (hz L x) j (i + 1)))
    rw [e]
    by_cases c : q.1 = x
    · rw [if_pos (show nI q.1 = nI x by rw [c]), if_pos c, nI_add, ← Nat.add_assoc]
      exact ih (i + 1) (a + nd q.2.1) (by omega)
    · rw [if_neg (nI_ne (by omega) (by omega) c), if_neg c, Nat.zero_add]
      exact ih (i + 1) a (by omega)
theorem sizesOf_ok (B : BG p F L W w b (Y.2.2.1 5)) {x : Nat} (hx : x < 100) : r_X3_sizesOf b (nI x) = nI (HZ L x) := by
  have h16 := B.1.2.2.2.2.1
  have h := lp_sizesOf B hx L.length 0 0 (by omega)
  rw [Nat.zero_add] at h
  unfold r_X3_sizesOf
  rw [B.2.1.2.2.1, nI_clamp (by omega)]
  exact h
theorem lp_first (B : BG p F L W w b (Y.2.2.1 5)) {l : Nat} (hl : l < L.length) : ∀ (j i : Nat), i + j = l → ((∀ k, i ≤ k → k < l → ¬ nmA L k = nmA L l) ∧ lp_X3_isFirstOfName_2 b (nI l) j i = none) ∨ ((∃ k, i ≤ k ∧ k < l ∧ nmA L k = nmA L l) ∧ lp_X3_isFirstOfName_2 b (nI l) j i = some 0) := by
  intro j
  induction j with
  | zero => intro i hi; exact Or.inl ⟨fun k h1 h2 => by omega, rfl⟩
  | succ j ih =>
    intro i hi
    obtain ⟨n1, n2⟩ := nm_at B (show i < L.length by omega)
    obtain ⟨n3, n4⟩ := nm_at B hl
    rw [lp_X3_isFirstOfName_2, n1, n3]
    by_cases c : nmA L i = nmA L l
    · rw [if_pos (by rw [c])]
      exact Or.inr ⟨⟨i, Nat.le_refl _, by omega, c⟩, rfl⟩
    · rw [if_neg (nI_ne (by omega) (by omega) c)]
      rcases ih (i + 1) (by omega) with ⟨h1, h2⟩ | ⟨⟨k, h1, h2, h3⟩, h4⟩
      · refine Or.inl ⟨fun k k1 k2 => ?_, h2⟩
        by_cases e : k = i
        · subst e; exact c
        · exact h1 k (by omega) k2
      · exact Or.inr ⟨⟨k, by omega, h2, h3⟩, h4⟩
theorem first_ok (B : BG p F L W w b (Y.2.2.1 5)) {l : Nat} (hl : l < L.length) : r_X3_isFirstOfName b (nI l) = if fst1 L l = true then 1 else 0 := by
  have h16 := B.1.2.2.2.2.1
  unfold r_X3_isFirstOfName
  rw [nI_clamp (by omega)]
  rcases lp_first B hl l 0 (by omega) with ⟨h1, h2⟩ | ⟨⟨k, -, h2, h3⟩, h4⟩
  · rw [h2, if_pos rfl, if_pos (show fst1 L l = true from decide_eq_true (fun i hi => h1 i (Nat.zero_le _) hi))]
  · rw [h4, if_neg (fun h => nomatch h), if_neg (show ¬ fst1 L l = true from fun h => (of_decide_eq_true h) k h2 h3)]
    rfl
theorem lp_ahead (B : BG p F L W w b (Y.2.2.1 5)) {x : Nat} (hx : x < 100) : ∀ (j i a : Nat), i + j = L.length → lp_X3_countAhead_11 b (nI x) j i (nI a) = nI (a + cnt (fun l => fst1 L l && ahead L x (nmA L l)) j i) := by
  have h16 := B.1.2.2.2.2.1
  have hX := HZ_le h16 x
  intro j
  induction j with
  | zero => intro i a hi; rfl
  | succ j ih =>
    intro i a hi
    have hi' : i < L.length := by omega
    obtain ⟨n1, n2⟩ := nm_at B hi'
    have hO := HZ_le h16 (nmA L i)
    rw [lp_X3_countAhead_11, first_ok B hi', n1, sizesOf_ok B hx, sizesOf_ok B n2]
    unfold cnt
    by_cases c : fst1 L i = true
    · rw [if_pos c, if_neg (show ¬ (1 : Int32) = 0 by decide)]
      have yes : ahead L x (nmA L i) = true → lp_X3_countAhead_11 b (nI x) j (i + 1) (nI a + 1) = nI (a + ((if (fst1 L i && ahead L x (nmA L i)) = true then 1 else 0) + cnt (fun l => fst1 L l && ahead L x (nmA L l)) j (i + 1))) := fun h => by
        rw [if_pos (show (fst1 L i && ahead L x (nmA L i)) = true by rw [c, h]; rfl), nI_1, ih (i + 1) (a + 1) (by omega)]
        congr 1; omega
      have no : ¬ ahead L x (nmA L i) = true → lp_X3_countAhead_11 b (nI x) j (i + 1) (nI a) = nI (a + ((if (fst1 L i && ahead L x (nmA L i)) = true then 1 else 0) + cnt (fun l => fst1 L l && ahead L x (nmA L l)) j (i + 1))) := fun h => by
        rw [if_neg (show ¬ (fst1 L i && ahead L x (nmA L i)) = true by rw [Bool.and_eq_true]; exact fun z => h z.2), Nat.zero_add, ih (i + 1) a (by omega)]
      by_cases d : HZ L x < HZ L (nmA L i)
      · rw [if_pos (nI_lt d (by omega))]
        exact yes (ahead_iff.mpr (Or.inl d))
      · rw [if_neg (nI_nlt (by omega) (by omega))]
        by_cases d2 : HZ L (nmA L i) = HZ L x
        · rw [if_pos (by rw [d2])]
          by_cases d3 : x ≤ nmA L i
          · rw [if_pos (nI_le d3 (by omega))]
            exact no (fun h => by have := ahead_iff.mp h; omega)
          · rw [if_neg (nI_ge (by omega) (by omega))]
            exact yes (ahead_iff.mpr (Or.inr ⟨d2, by omega⟩))
        · rw [if_neg (nI_ne (by omega) (by omega) d2)]
          exact no (fun h => by have := ahead_iff.mp h; omega)
    · rw [if_neg c, if_pos rfl, if_neg (show ¬ (fst1 L i && ahead L x (nmA L i)) = true by rw [Bool.and_eq_true]; exact fun z => c z.1), Nat.zero_add]
      exact ih (i + 1) a (by omega)
/-- the place of a name that has loans, in the class -/
theorem ahead_ok (B : BG p F L W w b (Y.2.2.1 5)) {l : Nat} (hl : l < L.length) : r_X3_countAhead b (nI (nmA L l)) = nI (rk L (nmA L l)) := by
  have h16 := B.1.2.2.2.2.1
  obtain ⟨n1, n2⟩ := nm_at B hl
  have h := lp_ahead B n2 L.length 0 0 (by omega)
  rw [Nat.zero_add] at h
  unfold r_X3_countAhead
  rw [B.2.1.2.2.1, nI_clamp (by omega)]
  have key : cnt (fun k => fst1 L k && ahead L (nmA L l) (nmA L k)) L.length 0 = rk L (nmA L l) := by
    rw [cnt_names (fun k hk => (nm_at B hk).2) (ahead L (nmA L l)) L.length (Nat.le_refl _)]
    unfold rk
    refine cnt_congr 100 0 (fun k _ _ => ?_)
    show (ahead L (nmA L l) k && decide (∃ i, i < L.length ∧ nmA L i = k)) = ahead L (nmA L l) k
    cases hA : ahead L (nmA L l) k with
    | false => rfl
    | true =>
      rw [decide_eq_true]
      · rfl
      · have h0 : 0 < HZ L (nmA L l) := (HZ_pos _).mpr ⟨l, hl, rfl⟩
        have h1 := ahead_iff.mp hA
        exact (HZ_pos k).mp (by omega)
  rw [key] at h
  exact h
theorem nI_subpos {a c : Nat} (ha : a < 2 ^ 20) (hc : c < 2 ^ 20) : (0 < nI a - nI c ↔ c < a) ∧ (nI a - nI c = 0 ↔ a = c) := by
  have e : (nI a - nI c).toInt = (a : Int) - (c : Int) := by
    rw [Int32.toInt_sub, nI_toInt (by omega), nI_toInt (by omega)]
    rw [Int.bmod_eq_of_le] <;> omega
  constructor
  · rw [Int32.lt_iff_toInt_lt, e, show (0 : Int32).toInt = 0 from rfl]
    omega
  · rw [← Int32.toInt_inj, e, show (0 : Int32).toInt = 0 from rfl]
    omega
theorem lp_rank_in (B : BG p F L W w b (Y.2.2.1 5)) {x : Nat} (hx : x < 100) : ∀ (j i a : Nat), i + j = 100 → lp_X8_ranked_22 Y x j i (nI a) = some (nI (a + cnt (ahead L x) j i)) := by
  have h16 := B.1.2.2.2.2.1
  have hX := HZ_le h16 x
  intro j
  induction j with
  | zero => intro i a hi; rfl
  | succ j ih =>
    intro i a hi
    have hO := HZ_le h16 i
    obtain ⟨s1, s2⟩ := nI_subpos (a := HZ L i) (c := HZ L x) (by omega) (by omega)
    rw [lp_X8_ranked_22, (held_ok B (nI i)).2.2, bnd1_some, (held_ok B (nI x)).2.2, bnd1_some, sizesOf_ok B (show i < 100 by omega), sizesOf_ok B hx]
    unfold cnt
    by_cases d : HZ L x < HZ L i
    · rw [if_pos (s1.mpr d), if_pos (ahead_iff.mpr (Or.inl d)), nI_1, ih (i + 1) (a + 1) (by omega)]
      congr 2; omega
    · rw [if_neg (fun h => d (s1.mp h))]
      by_cases d2 : HZ L i = HZ L x
      · rw [if_pos (s2.mpr d2)]
        by_cases d3 : x ≤ i
        · rw [if_pos (nI_le d3 (by omega)), if_neg (fun h => by have := ahead_iff.mp h; omega), Int32.add_zero, Nat.zero_add]
          exact ih (i + 1) a (by omega)
        · rw [if_neg (nI_ge (by omega) (by omega)), if_pos (ahead_iff.mpr (Or.inr ⟨d2, by omega⟩)), nI_1, ih (i + 1) (a + 1) (by omega)]
          congr 2; omega
      · rw [if_neg (fun h => d2 (s2.mp h)), if_neg (fun h => by have := ahead_iff.mp h; omega), Int32.add_zero, Nat.zero_add]
        exact ih (i + 1) a (by omega)
theorem lp_rank_c (B : BG p F L W w b (Y.2.2.1 5)) (x : Int32) : ∀ (j i : Nat), i + j = L.length → ((∀ l, i ≤ l → l < L.length → ¬ nI (rk L (nmA L l)) = x) ∧ lp_X3_nameOfRank_2 b x j i = none) ∨ ∃ l, l < L.length ∧ nI (rk L (nmA L l)) = x ∧ lp_X3_nameOfRank_2 b x j i = some (nI (nmA L l)) := by
  intro j
  induction j with
  | zero => intro i hi; exact Or.inl ⟨fun l h1 h2 => by omega, rfl⟩
  | succ j ih =>
    intro i hi
    have hi' : i < L.length := by omega
    rw [lp_X3_nameOfRank_2, (nm_at B hi').1, ahead_ok B hi']
    by_cases c : nI (rk L (nmA L i)) = x
    · rw [if_pos c]
      exact Or.inr ⟨i, hi', c, rfl⟩
    · rw [if_neg c]
      rcases ih (i + 1) (by omega) with ⟨h1, h2⟩ | h
      · refine Or.inl ⟨fun l l1 l2 => ?_, h2⟩
        by_cases e : l = i
        · subst e; exact c
        · exact h1 l (by omega) l2
      · exact Or.inr h
theorem has_loans (B : BG p F L W w b (Y.2.2.1 5)) {x : Nat} (hx : x < 100) : (r_X3_countOf b (nI x) ≤ 0) ↔ ¬ 0 < HZ L x := by
  have h16 := B.1.2.2.2.2.1
  obtain ⟨c, c1, c2, c3⟩ := lp_countOf B.1 B.2.1 hx L.length 0 0 (by omega)
  have e : r_X3_countOf b (nI x) = nI c := by
    unfold r_X3_countOf
    rw [B.2.1.2.2.1, nI_clamp (by omega)]
    rw [Nat.zero_add] at c2
    exact c2
  have e2 : (nI c ≤ 0) ↔ c = 0 := by
    constructor
    · intro h
      apply Classical.byContradiction
      intro hc
      exact nI_nle (n := c) (by omega) (by omega) h
    · intro h; rw [h]; decide
  rw [e, e2, c3, HZ_pos]
  constructor
  · rintro h ⟨l, hl, hn⟩
    obtain ⟨q, hq⟩ := get_ex hl
    refine h l q (Nat.zero_le _) hq ?_
    unfold nmA at hn
    rw [hq] at hn
    exact hn
  · intro h t q _ hq hn
    exact h ⟨t, get_lt hq, by unfold nmA; rw [hq]; exact hn⟩
theorem lp_rank_m (B : BG p F L W w b (Y.2.2.1 5)) (x : Int32) : ∀ (j i : Nat), i + j = 100 → ((∀ o, i ≤ o → o < 100 → 0 < HZ L o → ¬ nI (rk L o) = x) ∧ lp_X8_ranked_2 x j i Y = some (none, Y)) ∨ ∃ o, o < 100 ∧ 0 < HZ L o ∧ nI (rk L o) = x ∧ lp_X8_ranked_2 x j i Y = some (some (nI o), uS Y 19 0) := by
  intro j
  induction j with
  | zero => intro i hi; exact Or.inl ⟨fun l h1 h2 => by omega, rfl⟩
  | succ j ih =>
    intro i hi
    have hi' : i < 100 := by omega
    have hl := has_loans B hi'
    have skip : (0 < HZ L i → ¬ nI (rk L i) = x) → (((∀ o, i ≤ o → o < 100 → 0 < HZ L o → ¬ nI (rk L o) = x) ∧ lp_X8_ranked_2 x j (i + 1) Y = some (none, Y)) ∨ ∃ o, o < 100 ∧ 0 < HZ L o ∧ nI (rk L o) = x ∧ lp_X8_ranked_2 x j (i + 1) Y = some (some (nI o), uS Y 19 0)) := fun h0 => by
      rcases ih (i + 1) (by omega) with ⟨h1, h2⟩ | h
      · refine Or.inl ⟨fun l l1 l2 l3 => ?_, h2⟩
        by_cases e : l = i
        · subst e; exact h0 l3
        · exact h1 l (by omega) l2 l3
      · exact Or.inr h
    rw [lp_X8_ranked_2, (held_ok B (nI i)).1, bnd1_some]
    by_cases c : 0 < HZ L i
    · have hr : lp_X8_ranked_22 Y i 100 0 0 = some (nI (rk L i)) := by
        have h := lp_rank_in B hi' 100 0 0 (by omega)
        rw [Nat.zero_add] at h
        exact h
      rw [if_neg (fun h => hl.mp h c), hr, bnd1_some]
      by_cases d : nI (rk L i) = x
      · rw [if_pos d, done_eq, bnd2_some]
        exact Or.inr ⟨i, hi', c, d, rfl⟩
      · rw [if_neg d]
        exact skip (fun _ => d)
    · rw [if_pos (hl.mpr c)]
      exact skip (fun h => absurd h c)
/-- promise 20 -/
theorem q_ranked (B : BG p F L W w b (Y.2.2.1 5)) (x : Int32) : QB (e_X7_ranked b x) (r_X7_ranked b x) nseN "-" Y (m_X8_ranked Y x) := by
  have h16 := B.1.2.2.2.2.1
  unfold e_X7_ranked r_X7_ranked m_X8_ranked r_X3_nameOfRank
  rw [B.2.1.2.2.1, nI_clamp (by omega)]
  rcases lp_rank_c B x L.length 0 (by omega) with ⟨h1, h2⟩ | ⟨l, hl, h1, h2⟩
  · rcases lp_rank_m B x 100 0 (by omega) with ⟨h3, h4⟩ | ⟨o, ho, h3, h4, h5⟩
    · rw [h2, h4]
      simp only [if_true, bnd2_some, elseE_n]
      exact Or.inr (Or.inl ⟨rfl, rfl⟩)
    · obtain ⟨l, hl, hn⟩ := (HZ_pos o).mp h3
      exact absurd (by rw [hn]; exact h4) (h1 l (Nat.zero_le _) hl)
  · obtain ⟨n1, n2⟩ := nm_at B hl
    rcases lp_rank_m B x 100 0 (by omega) with ⟨h3, h4⟩ | ⟨o, ho, h3, h4, h5⟩
    · exact absurd h1 (h3 _ (Nat.zero_le _) n2 ((HZ_pos _).mpr ⟨l, hl, rfl⟩))
    · have r1 := cnt_le (ahead L o) 100 0
      have r2 := cnt_le (ahead L (nmA L l)) 100 0
      have e : o = nmA L l := rk_inj ho n2 ((nI_eq (a := rk L o) (b := rk L (nmA L l)) (by unfold rk; omega) (by unfold rk; omega)).mp (h4.trans h1.symm))
      have ns : ¬ (some (nI (nmA L l)) : Option Int32) = none := fun h => nomatch h
      rw [h2, h5, e]
      simp only [if_neg ns, Option.getD_some, if_pos (nI_pos' (show nmA L l < 2 ^ 31 by omega)), bnd2_some, elseE_s]
      exact Or.inl ⟨rfl, rfl⟩
end
