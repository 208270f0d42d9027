/-! ===== the pure part, 20: free pieces by the second way; all is well ===== -/
section
variable {p : Nat → Nat} {F : Nat → Bool} {L : tL} {W : tWt} {w : Nat} {b : BD} {Y : GS}
theorem cnt_in0 (s z : Nat) : cnt (inB L s z) L.length 0 = 0 ↔ ∀ q, q ∈ L → ¬ (q.2.2 < s + z ∧ s < q.2.2 + nd q.2.1) := by
  rw [cnt_zero]
  constructor
  · intro h q hq hz
    obtain ⟨l, hl⟩ := mem_get hq
    exact h l (Nat.zero_le _) (by have := get_lt hl; omega) ((inB_t hl).mpr hz)
  · intro h k _ hk hz
    obtain ⟨q, hq⟩ := get_ex (L := L) (l := k) (by omega)
    exact h q (get_mem hq) ((inB_t hq).mp hz)
theorem pow_of {s : Nat} (h : isP s) : ∃ k, k < 7 ∧ s = 2 ^ k := by
  rcases h with rfl | rfl | rfl | rfl | rfl | rfl | rfl
  · exact ⟨0, by omega, rfl⟩
  · exact ⟨1, by omega, rfl⟩
  · exact ⟨2, by omega, rfl⟩
  · exact ⟨3, by omega, rfl⟩
  · exact ⟨4, by omega, rfl⟩
  · exact ⟨5, by omega, rfl⟩
  · exact ⟨6, by omega, rfl⟩
/-- where no loan is, all is free -/
theorem no_loans (S : ST p F L W w) {s z : Nat} (h : ∀ q, q ∈ L → ¬ (q.2.2 < s + z ∧ s < q.2.2 + nd q.2.1)) : ∀ v, v < 64 → p v ≠ 0 → v < s + z → s < v + p v → F v = true := by
  intro v hv h0 h1 h2
  cases hF : F v with
  | true => rfl
  | false =>
    obtain ⟨q, hq, rfl⟩ := (S.2.1 v hv).mp ⟨h0, hF⟩
    have := (S.2.2.2.1 q hq).2.2.2.2
    exact absurd ⟨h1, by omega⟩ (h q hq)
theorem part_eq (S : ST p F L W w) {x s : Nat} (hx : x < 64) (hs : isP s) (h0 : x % s = 0) :
    (cnt (inB L x s) L.length 0 = 0 ∧ (s = 64 ∨ ¬ cnt (inB L (x - x % (2 * s)) (2 * s)) L.length 0 = 0)) ↔ (F x = true ∧ p x = s) := by
  have hs0 := isP_pos hs
  have hs1 := isP_le hs
  obtain ⟨k, hk, hkk⟩ := pow_of hs
  have hxs : x + s ≤ 64 := by rcases hs with rfl | rfl | rfl | rfl | rfl | rfl | rfl <;> omega
  have T := S.1
  have occ : ∀ q, q ∈ L → q.2.2 < 64 ∧ p q.2.2 = nd q.2.1 ∧ F q.2.2 = false := fun q hq => by
    have q4 := S.2.2.2.1 q hq
    exact ⟨q4.2.2.2.1, q4.2.2.2.2, ((S.2.1 _ q4.2.2.2.1).mpr ⟨q, hq, rfl⟩).2⟩
  constructor
  · rintro ⟨h1, h2⟩
    have hno := (cnt_in0 x s).mp h1
    have hf := no_loans S hno
    have hp : p x = s := by
      rw [hkk] at h0 hf hxs ⊢
      refine T.single k hk x hxs h0 hf (fun v g1 g2 => ?_)
      apply Classical.byContradiction
      intro hgt
      rw [← hkk] at hgt hf hxs h0
      have hv : v < 64 := by omega
      have hal := T.al hv (by omega)
      have hFv := hf v hv (by omega) (by omega) g2
      rcases h2 with h2 | h2
      · have := isP_le hal.1; omega
      · have h3 : ¬ ∀ q, q ∈ L → ¬ (q.2.2 < x - x % (2 * s) + 2 * s ∧ x - x % (2 * s) < q.2.2 + nd q.2.1) := fun z => h2 ((cnt_in0 _ _).mpr z)
        apply h3
        intro q hq hz
        obtain ⟨o1, o2, o3⟩ := occ q hq
        have hin : v ≤ x - x % (2 * s) ∧ x - x % (2 * s) + 2 * s ≤ v + p v := by
          have h5 := hal.1
          have h6 := hal.2
          generalize p v = t at h5 h6 g2 hgt
          rcases hs with rfl | rfl | rfl | rfl | rfl | rfl | rfl <;> rcases h5 with rfl | rfl | rfl | rfl | rfl | rfl | rfl <;> omega
        have : q.2.2 = v := by
          by_cases c : x - x % (2 * s) ≤ q.2.2
          · exact T.uniq (u := q.2.2) o1 (Nat.le_refl _) (by have := isP_pos (isP_nd q.2.1); omega) (by omega) (by omega)
          · exact T.uniq (u := x - x % (2 * s)) (by omega) (by omega) (by omega) hin.1 (by omega)
        rw [this, hFv] at o3
        cases o3
    exact ⟨hf x hx (by omega) (by omega) (by omega), hp⟩
  · rintro ⟨hF, hp⟩
    refine ⟨(cnt_in0 x s).mpr (fun q hq hz => ?_), ?_⟩
    · obtain ⟨o1, o2, o3⟩ := occ q hq
      have : q.2.2 = x := by
        by_cases c : x ≤ q.2.2
        · exact T.uniq (u := q.2.2) o1 (Nat.le_refl _) (by have := isP_pos (isP_nd q.2.1); omega) c (by omega)
        · exact T.uniq (u := x) hx (by omega) (by omega) (Nat.le_refl _) (by omega)
      rw [this, hF] at o3
      cases o3
    · by_cases e : s = 64
      · exact Or.inl e
      · right
        intro h2
        have hno := (cnt_in0 _ _).mp h2
        have hf := no_loans S hno
        have hD : x - x % (2 * s) + 2 * s ≤ 64 ∧ (x - x % (2 * s)) % (2 * s) = 0 ∧ x - x % (2 * s) ≤ x ∧ x < x - x % (2 * s) + 2 * s := by
          rcases hs with rfl | rfl | rfl | rfl | rfl | rfl | rfl <;> omega
        have e2 : 2 * s = 2 ^ (k + 1) := by rw [Nat.pow_succ, hkk]; omega
        have hk2 : k + 1 < 7 := by
          rcases (show k = 6 ∨ k < 6 by omega) with h | h
          · rw [h] at hkk; exact absurd hkk e
          · omega
        generalize x - x % (2 * s) = d at hD hf hno h2
        have hpd : p d = 2 * s := by
          rw [e2] at hD hf ⊢
          refine T.single (k + 1) hk2 d hD.1 hD.2.1 hf (fun v g1 g2 => ?_)
          apply Classical.byContradiction
          intro hgt
          rw [← e2] at hgt hD
          have hv : v < 64 := by omega
          have hal := T.al hv (by omega)
          have hin : v ≤ d ∧ d + 2 * s ≤ v + p v := by
            have h5 := hal.1
            have h6 := hal.2
            generalize p v = t at h5 h6 g2 hgt
            have h7 := hD.2.1
            rcases hs with rfl | rfl | rfl | rfl | rfl | rfl | rfl <;> rcases h5 with rfl | rfl | rfl | rfl | rfl | rfl | rfl <;> omega
          have := T.uniq hx (v := v) (w := x) (by omega) (by omega) (Nat.le_refl _) (by omega)
          rw [this] at hgt
          omega
        have := T.uniq hx (v := d) (w := x) hD.2.2.1 (by omega) (Nat.le_refl _) (by omega)
        rw [this] at hpd
        omega
theorem lp_parts (B : BG p F L W w b (Y.2.2.1 5)) {s : Nat} (hs : isP s) : ∀ (d fuel a x : Nat), d < fuel → x + s * d = 64 → x % s = 0 → lp_X0_countFreeParts_4 b (nI s) fuel (nI a) (nI x) = some (nI (a + cnt (fun k => F k && decide (p k = s)) (64 - x) x), nI 64) := by
  have hs0 := isP_pos hs
  have hs1 := isP_le hs
  intro d
  induction d with
  | zero =>
    intro fuel a x hf hx h0
    obtain ⟨fuel, rfl⟩ : ∃ i, fuel = i + 1 := ⟨fuel - 1, by omega⟩
    have : x = 64 := by omega
    subst this
    rw [lp_X0_countFreeParts_4, if_neg (nltR (k := 1) (x := 1) rfl hs0 (by omega)), if_pos (by decide)]
    rfl
  | succ d ih =>
    intro fuel a x hf hx h0
    obtain ⟨fuel, rfl⟩ : ∃ i, fuel = i + 1 := ⟨fuel - 1, by omega⟩
    have hmul : s * (d + 1) = s * d + s := Nat.mul_succ s d
    have hx64 : x < 64 := by omega
    have hP := part_eq B.1 hx64 hs h0
    -- the count of one step
    have hcnt : cnt (fun k => F k && decide (p k = s)) (64 - x) x = (if F x = true ∧ p x = s then 1 else 0) + cnt (fun k => F k && decide (p k = s)) (64 - (x + s)) (x + s) := by
      rw [show 64 - x = s + (64 - (x + s)) by omega, cnt_add]
      congr 1
      obtain ⟨t, rfl⟩ : ∃ t, s = t + 1 := ⟨s - 1, by omega⟩
      show (if (F x && decide (p x = t + 1)) = true then 1 else 0) + cnt _ t (x + 1) = _
      rw [(cnt_zero (fun k => F k && decide (p k = t + 1)) t (x + 1)).mpr (fun k k1 k2 k3 => by
        rw [Bool.and_eq_true] at k3
        have h3 := of_decide_eq_true k3.2
        have hal := B.1.1.al (u := k) (by omega) (by omega)
        rw [h3] at hal
        have h4 := hal.2
        have k4 : k < x + (t + 1) := by omega
        generalize t + 1 = s at hs h0 h4 k4
        rcases hs with rfl | rfl | rfl | rfl | rfl | rfl | rfl <;> omega), Nat.add_zero]
      by_cases c : F x = true ∧ p x = t + 1
      · rw [if_pos c, if_pos (by rw [c.1, decide_eq_true c.2]; rfl)]
      · rw [if_neg c, if_neg (fun h => c (by rw [Bool.and_eq_true] at h; exact ⟨h.1, of_decide_eq_true h.2⟩))]
    obtain ⟨c1, -⟩ := countIn_ok B hx64 hs1
    have hmod : (x + s) % s = 0 := by rw [Nat.add_mod_right]; exact h0
    have hle := cnt_le (inB L x s) L.length 0
    have h16 := B.1.2.2.2.2.1
    rw [lp_X0_countFreeParts_4, if_neg (nltR (k := 1) (x := 1) rfl hs0 (by omega)), if_neg (geL (k := 64) (x := 64) rfl hx64 (by omega)), c1, nI_add]
    have fin0 : ¬ (F x = true ∧ p x = s) → lp_X0_countFreeParts_4 b (nI s) fuel (nI a) (nI (x + s)) = some (nI (a + cnt (fun k => F k && decide (p k = s)) (64 - x) x), nI 64) := fun h => by
      rw [hcnt, if_neg h, Nat.zero_add]
      exact ih fuel a (x + s) (by omega) (by omega) hmod
    by_cases d1 : cnt (inB L x s) L.length 0 = 0
    · rw [if_pos (by rw [d1]; rfl)]
      have hm : r_X0_isBoardOrHalfOfMixed b (nI x) (nI s) = if (s = 64 ∨ ¬ cnt (inB L (x - x % (2 * s)) (2 * s)) L.length 0 = 0) then 1 else 0 := by
        unfold r_X0_isBoardOrHalfOfMixed
        by_cases e : s = 64
        · rw [if_pos (by rw [e]; rfl), if_pos (Or.inl e)]
        · have hD := isP_dbl hs (by omega)
          have e2 : (2 : Int32) * nI s = nI (2 * s) := nI_mul 2 s
          have hle2 := cnt_le (inB L (x - x % (2 * s)) (2 * s)) L.length 0
          rw [if_neg (neL (k := 64) (x := 64) rfl (by omega) (by omega) e), e2, partOf_nI hx64 hD, (countIn_ok B (s := x - x % (2 * s)) (z := 2 * s) (by omega) (isP_le hD)).1]
          by_cases c : cnt (inB L (x - x % (2 * s)) (2 * s)) L.length 0 = 0
          · rw [if_pos (by rw [c]; decide), if_neg (fun h => by rcases h with h | h; exact e h; exact h c)]
          · rw [if_neg (nI_nle (by omega) (by omega)), if_pos (Or.inr c)]
      rw [hm]
      by_cases d2 : s = 64 ∨ ¬ cnt (inB L (x - x % (2 * s)) (2 * s)) L.length 0 = 0
      · rw [if_pos d2, if_neg (by decide), nI_1, hcnt, if_pos (hP.mp ⟨d1, d2⟩), show a + (1 + cnt (fun k => F k && decide (p k = s)) (64 - (x + s)) (x + s)) = a + 1 + cnt (fun k => F k && decide (p k = s)) (64 - (x + s)) (x + s) by omega]
        exact ih fuel (a + 1) (x + s) (by omega) (by omega) hmod
      · rw [if_neg d2, if_pos rfl]
        exact fin0 (fun h => d2 (hP.mpr h).2)
    · rw [if_neg (nI_ne0 (by omega) (by omega))]
      exact fin0 (fun h => d1 (hP.mpr h).1)
theorem parts_ok (B : BG p F L W w b (Y.2.2.1 5)) {s : Nat} (hs : isP s) : r_X0_countFreeParts b (nI s) = nI (cnt (fun k => F k && decide (p k = s)) 64 0) := by
  obtain ⟨D, hD, hD64⟩ : ∃ D, 0 + s * D = 64 ∧ D < 100 := by
    rcases hs with rfl | rfl | rfl | rfl | rfl | rfl | rfl
    · exact ⟨64, by omega, by omega⟩
    · exact ⟨32, by omega, by omega⟩
    · exact ⟨16, by omega, by omega⟩
    · exact ⟨8, by omega, by omega⟩
    · exact ⟨4, by omega, by omega⟩
    · exact ⟨2, by omega, by omega⟩
    · exact ⟨1, by omega, by omega⟩
  have h := lp_parts B hs D 100 0 0 hD64 hD (Nat.zero_mod s)
  rw [Nat.zero_add] at h
  have h' : lp_X0_countFreeParts_4 b (nI s) 100 0 0 = _ := h
  unfold r_X0_countFreeParts
  rw [h']
  rfl
/-- promise 13 -/
theorem q_free (B : BG p F L W w b (Y.2.2.1 5)) (x y : Int32) : QB (e_X7_free x y) (r_X7_free b x y) "java/lang/IllegalArgumentException" "-" Y (m_X8_free Y x) := by
  unfold e_X7_free r_X7_free m_X8_free
  rcases amount_cases x with ⟨⟨k, k1, k2, rfl⟩, h1, h2⟩ | ⟨h1, h2⟩
  · rw [size_all k (by omega) k1, h2]
    simp only [bnd1_some, if_neg (show ¬ (1 : Int32) = 0 by decide), mneed_nI k1 k2]
    by_cases e : nd k = k
    · have hs : isP k := by rw [← e]; exact isP_nd k
      obtain ⟨c1, c2⟩ := countOfSize_ok B k2 k1
      have c3 := parts_ok B hs
      simp only [e, if_true, if_neg (show ¬ (1 : Int32) = 0 by decide), c1, c2, c3, bnd1_some]
      by_cases ey : y = 0
      · simp only [if_pos ey]; exact Or.inl ⟨rfl, rfl⟩
      · simp only [if_neg ey]; exact Or.inl ⟨rfl, rfl⟩
    · have hn := isP_le (isP_nd k)
      simp only [if_neg e, if_true, if_neg (nI_ne (show nd k < 2 ^ 31 by omega) (show k < 2 ^ 31 by omega) e)]
      exact Or.inr (Or.inl ⟨rfl, rfl⟩)
  · have h3 : r_X7_isSize x = 0 := by
      unfold r_X7_isAmount at h1
      unfold r_X7_isSize
      by_cases c : x < 1
      · rw [if_pos c]
      · rw [if_neg c] at h1 ⊢
        by_cases c2 : 64 < x
        · rw [if_pos c2]
        · rw [if_neg c2] at h1; exact absurd h1 (by decide)
    simp only [h2, h3, bnd1_some, if_true]
    exact Or.inr (Or.inl ⟨rfl, rfl⟩)
theorem lp_alike (B : BG p F L W w b (Y.2.2.1 5)) {s j : Nat} (hs : isP s) : lp_X0_isCountedAlike_2 b (j + 1) (nI s) = lp_X0_isCountedAlike_2 b j (nI (s * 2)) := by
  have hs0 := isP_pos hs
  have hs1 := isP_le hs
  rw [lp_X0_isCountedAlike_2, if_neg (nltL (k := 64) (x := 64) rfl hs1 (by omega)), (countOfSize_ok B hs1 hs0).1, parts_ok B hs, if_pos rfl, show nI s * 2 = nI (s * 2) from nI_mul s 2]
theorem well_alike (B : BG p F L W w b (Y.2.2.1 5)) : r_X0_isCountedAlike b = 1 := by
  have h : lp_X0_isCountedAlike_2 b 64 1 = some (none, nI 128) := by
    show lp_X0_isCountedAlike_2 b (63 + 1) (nI 1) = _
    rw [lp_alike B (by unfold isP; omega)]
    show lp_X0_isCountedAlike_2 b (62 + 1) (nI 2) = _
    rw [lp_alike B (by unfold isP; omega)]
    show lp_X0_isCountedAlike_2 b (61 + 1) (nI 4) = _
    rw [lp_alike B (by unfold isP; omega)]
    show lp_X0_isCountedAlike_2 b (60 + 1) (nI 8) = _
    rw [lp_alike B (by unfold isP; omega)]
    show lp_X0_isCountedAlike_2 b (59 + 1) (nI 16) = _
    rw [lp_alike B (by unfold isP; omega)]
    show lp_X0_isCountedAlike_2 b (58 + 1) (nI 32) = _
    rw [lp_alike B (by unfold isP; omega)]
    show lp_X0_isCountedAlike_2 b (57 + 1) (nI 64) = _
    rw [lp_alike B (by unfold isP; omega)]
    show lp_X0_isCountedAlike_2 b (56 + 1) (nI 128) = _
    rw [lp_X0_isCountedAlike_2, if_pos (by decide)]
  unfold r_X0_isCountedAlike
  rw [h]
  rfl
theorem lp_covered (B : BG p F L W w b (Y.2.2.1 5)) : ∀ (j i : Nat), i + j = 64 → lp_X0_isCovered_2 b j i = none := by
  intro j
  induction j with
  | zero => intro i hi; rfl
  | succ j ih =>
    intro i hi
    have hi64 : i < 64 := by omega
    obtain ⟨v, h1, h2, h3, h4⟩ := owner B hi64
    have c1 : r_X3_countIn b (nI i) 1 = nI (cnt (inB L i 1) L.length 0) := (countIn_ok B hi64 (show 1 ≤ 64 by omega)).1
    have c2 : r_X5_countWith b (nI i) = nI (cnt (fun k => F k && decide (k ≤ i ∧ i < k + p k)) 64 0) := by
      have h := lp_countWith B.1.1 B.2.1.1 hi64 64 0 0 (by omega)
      rw [Nat.zero_add] at h
      exact h
    have hs : cnt (inB L i 1) L.length 0 + cnt (fun k => F k && decide (k ≤ i ∧ i < k + p k)) 64 0 = 1 := by
      rcases h4 with ⟨hF, hno⟩ | ⟨hF, l, q, hq, hv, hun⟩
      · rw [(cnt_in0 i 1).mpr (fun q hq hz => by
          obtain ⟨l, hl⟩ := mem_get hq
          exact hno l q hl ⟨by omega, hz.2⟩), cnt_one _ v (by rw [hF, decide_eq_true (show v ≤ i ∧ i < v + p v from ⟨h1, h2⟩)]; rfl) 64 0 (by omega) (by omega) (fun k k1 k2 k3 => by
          rw [Bool.and_eq_true] at k3
          have := of_decide_eq_true k3.2
          exact B.1.1.uniq hi64 this.1 this.2 h1 h2)]
      · have q4 := B.1.2.2.2.1 q (get_mem hq)
        have hl := get_lt hq
        rw [cnt_one (inB L i 1) l ((inB_t hq).mpr ⟨by omega, by rw [← q4.2.2.2.2, hv]; exact h2⟩) L.length 0 (by omega) (by omega) (fun k k1 k2 k3 => by
          obtain ⟨r, hr⟩ := get_ex (L := L) (l := k) (by omega)
          have := (inB_t hr).mp k3
          exact hun k r hr ⟨by omega, this.2⟩), (cnt_zero _ 64 0).mpr (fun k k1 k2 k3 => by
          rw [Bool.and_eq_true] at k3
          have := of_decide_eq_true k3.2
          have h9 := B.1.1.uniq hi64 this.1 this.2 h1 h2
          rw [h9, hF] at k3
          exact absurd k3.1 (by decide))]
    rw [lp_X0_isCovered_2, c1, c2, nI_add, hs, if_pos (show (nI 1 : Int32) = 1 from rfl)]
    exact ih (i + 1) (by omega)
theorem lp_needMet (B : BG p F L W w b (Y.2.2.1 5)) : ∀ (j i : Nat), i + j = L.length → lp_X3_isEachNeedMet_2 b j i = none := by
  intro j
  induction j with
  | zero => intro i hi; rfl
  | succ j ih =>
    intro i hi
    obtain ⟨q, hq⟩ := get_ex (L := L) (l := i) (by omega)
    obtain ⟨l1, l2, l3, l4⟩ := loan_at B.1 B.2.1 hq
    have q4 := B.1.2.2.2.1 q (get_mem hq)
    have h1 := nd_ge q4.2.2.1
    have h2 := nd_half q4.2.1
    have h3 := isP_le (isP_nd q.2.1)
    rw [lp_X3_isEachNeedMet_2, l4, l2, if_neg (nI_nlt h1 (by omega)), nI_half (by omega), if_pos (nI_lt h2 (by omega))]
    exact ih (i + 1) (by omega)
theorem lp_left (B : BG p F L W w b (Y.2.2.1 5)) (hS : Sv p F L W) : ∀ (j i : Nat), i + j = W.length → lp_X0_isSomebodyLeft_2 b j i = none := by
  intro j
  induction j with
  | zero => intro i hi; rfl
  | succ j ih =>
    intro i hi
    obtain ⟨q, hq⟩ := get_ex (L := W) (l := i) (by omega)
    obtain ⟨w1, w2⟩ := wait_at B.1 B.2.1 hq
    have q4 := B.1.2.2.2.2.2.1 q (get_mem hq)
    have h9 : r_X0_canLend b (nI q.2) = 0 := by
      rcases canLend_ok B q4.2.1 q4.2.2 with ⟨⟨c1, u, hu, c2, c3⟩, -⟩ | ⟨-, c, -⟩
      · rcases hS q (get_mem hq) with h | h
        · omega
        · have := h u hu c2; omega
      · exact c
    rw [lp_X0_isSomebodyLeft_2, w2, h9, if_pos rfl]
    exact ih (i + 1) (by omega)
/-- promise 29 -/
theorem well_ok (B : BG p F L W w b (Y.2.2.1 5)) (hS : Sv p F L W) : r_X7_isWell b = 1 := by
  have h16 := B.1.2.2.2.2.1
  have h6 := B.1.2.2.2.2.2.2.1
  have e1 : r_X0_isCovered b = 1 := by unfold r_X0_isCovered; rw [lp_covered B 64 0 (by omega)]; rfl
  have e2 : r_X3_isEachNeedMet b = 1 := by unfold r_X3_isEachNeedMet; rw [B.2.1.2.2.1, nI_clamp (by omega), lp_needMet B L.length 0 (by omega)]; rfl
  have e3 : r_X0_isSomebodyLeft b = 0 := by unfold r_X0_isSomebodyLeft; rw [B.2.1.2.2.2.1, nI_clamp (by omega), lp_left B hS W.length 0 (by omega)]; rfl
  unfold r_X7_isWell
  rw [e1, well_alike B, e2, e3]
  rfl
end
