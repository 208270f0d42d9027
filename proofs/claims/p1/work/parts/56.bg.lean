/-! ===== the pure part, 7: loans, those who wait; a board of the class and one of the reference ===== -/
abbrev tL : Type := List (Nat × Nat × Nat)
abbrev tWt : Type := List (Nat × Nat)
/-- loans: name, amount, first unit; waiting: name, amount; w: the way -/
def ST (p : Nat → Nat) (F : Nat → Bool) (L : tL) (W : tWt) (w : Nat) : Prop :=
  TI p F ∧ (∀ u, u < 64 → ((p u ≠ 0 ∧ F u = false) ↔ ∃ q, q ∈ L ∧ q.2.2 = u)) ∧ (L.map (fun q => q.2.2)).Nodup ∧
  (∀ q, q ∈ L → q.1 < 100 ∧ 1 ≤ q.2.1 ∧ q.2.1 ≤ 64 ∧ q.2.2 < 64 ∧ p q.2.2 = nd q.2.1) ∧ L.length ≤ 16 ∧ (∀ q, q ∈ W → q.1 < 100 ∧ 1 ≤ q.2 ∧ q.2 ≤ 64) ∧ W.length ≤ 6 ∧ w < 3
def BB (p : Nat → Nat) (F : Nat → Bool) (L : tL) (W : tWt) (w : Nat) (b : BD) : Prop :=
  RC p F b ∧ b.1 0 = nI w ∧ b.1 3 = nI L.length ∧ b.1 4 = nI W.length ∧
  (∀ l q, L[l]? = some q → b.2 1 l = nI q.1 ∧ b.2 2 l = nI q.2.1 ∧ b.2 3 l = nI q.2.2 ∧ b.2 4 l = nI (nd q.2.1)) ∧
  ∀ k q, W[k]? = some q → b.2 5 k = nI q.1 ∧ b.2 6 k = nI q.2
def GG (p : Nat → Nat) (L : tL) (W : tWt) (w : Nat) (g : Nat → Int32) : Prop :=
  (∀ u, u < 64 → g u = nI (p u)) ∧ g 126 = nI w ∧ g 64 = nI L.length ∧ g 113 = nI W.length ∧
  (∀ l q, L[l]? = some q → g (65 + l) = nI q.1 ∧ g (81 + l) = nI q.2.1 ∧ g (97 + l) = nI q.2.2) ∧
  ∀ k q, W[k]? = some q → g (114 + k) = nI q.1 ∧ g (120 + k) = nI q.2
def BG (p : Nat → Nat) (F : Nat → Bool) (L : tL) (W : tWt) (w : Nat) (b : BD) (g : Nat → Int32) : Prop :=
  ST p F L W w ∧ BB p F L W w b ∧ GG p L W w g ∧ b.1 1 = g 127 ∧ b.1 2 = g 128
/-- to nobody who waits could be lent -/
def Sv (p : Nat → Nat) (F : Nat → Bool) (L : tL) (W : tWt) : Prop := ∀ q, q ∈ W → L.length = 16 ∨ ∀ u, u < 64 → F u = true → p u < nd q.2
/-- a board of the class and a row of 129 of the reference are the same board, and all is well -/
def Bd (b : BD) (g : Nat → Int32) : Prop := ∃ (p : Nat → Nat) (F : Nat → Bool) (L : tL) (W : tWt) (w : Nat), BG p F L W w b g ∧ Sv p F L W
theorem get_mem {α : Type} {L : List α} {l : Nat} {q : α} (h : L[l]? = some q) : q ∈ L := List.mem_of_getElem? h
theorem get_lt {α : Type} {L : List α} {l : Nat} {q : α} (h : L[l]? = some q) : l < L.length := (List.getElem?_eq_some_iff.mp h).1
theorem get_ex {α : Type} {L : List α} {l : Nat} (h : l < L.length) : ∃ q, L[l]? = some q := ⟨L[l], List.getElem?_eq_getElem h⟩
theorem mem_get {α : Type} {L : List α} {q : α} (h : q ∈ L) : ∃ l : Nat, L[l]? = some q := List.mem_iff_getElem?.mp h
theorem get_app {α : Type} {L : List α} {l : Nat} {q r : α} (h : (L ++ [q])[l]? = some r) : (L[l]? = some r ∧ l < L.length) ∨ (l = L.length ∧ r = q) := by
  by_cases e : l < L.length
  · rw [List.getElem?_append_left e] at h; exact Or.inl ⟨h, e⟩
  · rw [List.getElem?_append_right (by omega)] at h
    by_cases e2 : l - L.length = 0
    · rw [e2] at h
      right
      exact ⟨by omega, by simpa using h.symm⟩
    · obtain ⟨k, hk⟩ : ∃ k, l - L.length = k + 1 := ⟨l - L.length - 1, by omega⟩
      rw [hk] at h
      simp at h
theorem get_er {α : Type} {L : List α} {k t : Nat} {r : α} (h : (L.eraseIdx k)[t]? = some r) : (t < k ∧ L[t]? = some r) ∨ (k ≤ t ∧ L[t + 1]? = some r) := by
  rw [List.getElem?_eraseIdx] at h
  by_cases e : t < k
  · rw [if_pos e] at h; exact Or.inl ⟨e, h⟩
  · rw [if_neg e] at h; exact Or.inr ⟨by omega, h⟩
/-- two loans of the same first unit are the same -/
theorem nodup_at {L : tL} (h : (L.map (fun q => q.2.2)).Nodup) {l k : Nat} {q r : Nat × Nat × Nat} (h1 : L[l]? = some q) (h2 : L[k]? = some r) (e : q.2.2 = r.2.2) : l = k := by
  have hl := get_lt h1
  have hk := get_lt h2
  refine (List.getElem?_inj (l := L.map (fun q => q.2.2)) (by simpa using hl) h).mp ?_
  rw [List.getElem?_map, List.getElem?_map, h1, h2]
  simp [e]
section
variable {p : Nat → Nat} {F : Nat → Bool} {L : tL} {W : tWt} {w : Nat} {b : BD} {g : Nat → Int32}
theorem ST.HL (S : ST p F L W w) (G : GG p L W w g) : ∀ u, u < 64 → ((∃ l, l < L.length ∧ g (97 + l) = nI u) ↔ (p u ≠ 0 ∧ F u = false)) := by
  intro u hu
  rw [S.2.1 u hu]
  constructor
  · rintro ⟨l, hl, hz⟩
    obtain ⟨q, hq⟩ := get_ex hl
    have h1 := (G.2.2.2.2.1 l q hq).2.2
    have h2 := S.2.2.2.1 q (get_mem hq)
    rw [hz] at h1
    exact ⟨q, get_mem hq, ((nI_eq (by omega) (by omega)).mp h1).symm⟩
  · rintro ⟨q, hq, rfl⟩
    obtain ⟨l, hl⟩ := mem_get hq
    exact ⟨l, get_lt hl, (G.2.2.2.2.1 l q hl).2.2⟩
theorem RM_of (T : TI p F) {n : Nat} (h16 : n ≤ 16) (hn : g 64 = nI n) (hg : ∀ u, u < 64 → g u = nI (p u)) (HL : ∀ u, u < 64 → ((∃ l, l < n ∧ g (97 + l) = nI u) ↔ (p u ≠ 0 ∧ F u = false))) : RM p F n g := by
  refine ⟨h16, hn, hg, fun u hu => ⟨fun h => ⟨T.2.2.2.1 u hu h, fun l hl hz => ?_⟩, fun h => ?_⟩⟩
  · have := ((HL u hu).mp ⟨l, hl, hz⟩).2
    rw [h] at this; cases this
  · cases hc : F u with
    | true => rfl
    | false =>
      obtain ⟨l, hl, hz⟩ := (HL u hu).mpr ⟨h.1, hc⟩
      exact absurd hz (h.2 l hl)
theorem ST.RM (S : ST p F L W w) (G : GG p L W w g) : RM p F L.length g := RM_of S.1 S.2.2.2.2.1 G.2.2.1 G.1 (S.HL G)
theorem has3_t {l n : Nat} (hb : b.1 3 = nI n) (hn : n ≤ 16) (h : l < n) : r_X3_has b (nI l) = 1 := by
  unfold r_X3_has
  rw [if_neg (nI_pos (by omega)), hb, if_neg (nI_ge h (by omega)), if_neg (geL (k := 16) (x := 16) rfl (by omega) (by omega))]
theorem has3_f {n : Nat} {x : Int32} (hb : b.1 3 = nI n) (hn : n ≤ 16) (h : ∀ l, l < n → ¬ x = nI l) : r_X3_has b x = 0 := by
  unfold r_X3_has
  by_cases e : x < 0
  · rw [if_pos e]
  · rw [if_neg e, hb]
    obtain ⟨j, hj, rfl⟩ := nI_of e
    rw [if_pos]
    refine nI_le (Nat.not_lt.mp fun h2 => h j h2 rfl) hj
theorem has6_t {l n : Nat} (hb : b.1 4 = nI n) (hn : n ≤ 6) (h : l < n) : r_X6_has b (nI l) = 1 := by
  unfold r_X6_has
  rw [if_neg (nI_pos (by omega)), hb, if_neg (nI_ge h (by omega)), if_neg (geL (k := 6) (x := 6) rfl (by omega) (by omega))]
theorem has6_f {n : Nat} {x : Int32} (hb : b.1 4 = nI n) (hn : n ≤ 6) (h : ∀ l, l < n → ¬ x = nI l) : r_X6_has b x = 0 := by
  unfold r_X6_has
  by_cases e : x < 0
  · rw [if_pos e]
  · rw [if_neg e, hb]
    obtain ⟨j, hj, rfl⟩ := nI_of e
    rw [if_pos]
    refine nI_le (Nat.not_lt.mp fun h2 => h j h2 rfl) hj
theorem loan_at (S : ST p F L W w) (B : BB p F L W w b) {l : Nat} {q : Nat × Nat × Nat} (h : L[l]? = some q) : r_X3_nameAt b (nI l) = nI q.1 ∧ r_X3_amountAt b (nI l) = nI q.2.1 ∧ r_X3_startAt b (nI l) = nI q.2.2 ∧ r_X3_sizeAt b (nI l) = nI (nd q.2.1) := by
  have hl := get_lt h
  have h16 := S.2.2.2.2.1
  have h1 := has3_t (b := b) B.2.2.1 h16 hl
  obtain ⟨a1, a2, a3, a4⟩ := B.2.2.2.2.1 l q h
  unfold r_X3_nameAt r_X3_amountAt r_X3_startAt r_X3_sizeAt
  rw [h1, if_neg (by decide), if_neg (by decide), if_neg (by decide), if_neg (by decide), nI_clamp (by omega)]
  exact ⟨a1, a2, a3, a4⟩
theorem wait_at (S : ST p F L W w) (B : BB p F L W w b) {l : Nat} {q : Nat × Nat} (h : W[l]? = some q) : r_X6_nameAt b (nI l) = nI q.1 ∧ r_X6_amountAt b (nI l) = nI q.2 := by
  have hl := get_lt h
  have h16 := S.2.2.2.2.2.2.1
  have h1 := has6_t (b := b) B.2.2.2.1 h16 hl
  obtain ⟨a1, a2⟩ := B.2.2.2.2.2 l q h
  unfold r_X6_nameAt r_X6_amountAt
  rw [h1, if_neg (by decide), if_neg (by decide), nI_clamp (by omega)]
  exact ⟨a1, a2⟩
/-- whether can be lent: by the class and by the reference -/
theorem canLend_ok {X : GS} (B : BG p F L W w b (X.2.2.1 5)) {am : Nat} (h1 : 1 ≤ am) (h2 : am ≤ 64) :
    ((L.length < 16 ∧ ∃ u, u < 64 ∧ F u = true ∧ nd am ≤ p u) ∧ r_X0_canLend b (nI am) = 1 ∧ m_X8_canLend X (nI am) = some 1) ∨
    ((L.length = 16 ∨ ∀ u, u < 64 → F u = true → p u < nd am) ∧ r_X0_canLend b (nI am) = 0 ∧ m_X8_canLend X (nI am) = some 0) := by
  obtain ⟨S, B, G, -, -⟩ := B
  have h16 := S.2.2.2.2.1
  have R := S.RM G
  unfold r_X0_canLend m_X8_canLend
  rw [B.2.2.1, G.2.2.1, need_nI h1 h2, mneed_nI h1 h2]
  by_cases e : L.length = 16
  · right
    rw [if_pos (leL (k := 16) (x := 16) rfl (by omega) (by omega)), if_pos (leL (k := 16) (x := 16) rfl (by omega) (by omega))]
    exact ⟨Or.inl e, rfl, rfl⟩
  · rw [if_neg (geL (k := 16) (x := 16) rfl (by omega) (by omega)), if_neg (geL (k := 16) (x := 16) rfl (by omega) (by omega)), bnd1_some]
    have hN := isP_nd am
    have hN1 := isP_pos hN
    have hN2 := isP_le hN
    obtain ⟨f1, f2⟩ := find_ok (X := X) S.1 R B.1 S.2.2.2.2.2.2.2 B.2.1 G.2.1 (need := nd am) hN1 hN2
    obtain ⟨M, g1, g2, g3, g4, g5⟩ := greatest_ok (X := X) S.1 R B.1
    rw [f1, bnd1_some, g2]
    rcases f2 with ⟨h3, h4⟩ | ⟨v, h3, h4, h5, h6⟩
    · right
      rw [h3, if_pos rfl]
      refine ⟨Or.inr h4, ?_, rfl⟩
      rw [if_pos]
      refine nI_lt ?_ (by omega)
      rcases g5 with h | ⟨u, hu, h7, h8⟩
      · omega
      · have := h4 u hu h7; omega
    · left
      rw [h4, if_neg (nI_m1 (by omega))]
      refine ⟨⟨by omega, v, h3, h5, h6⟩, ?_, rfl⟩
      rw [if_neg]
      have := g4 v h3 h5
      exact nI_nlt (by omega) (by omega)
end
