/-! ===== the pure part, 16: the whole state of the class and of the reference ===== -/
theorem Bd.cg {b b' : BD} {g g' : Nat → Int32} (h : Bd b g) (hs : ∀ i, i < 5 → b'.1 i = b.1 i) (h0 : ∀ u, u < 64 → b'.2 0 u = b.2 0 u) (hl : ∀ a, 1 ≤ a → a ≤ 4 → ∀ t, t < 16 → b'.2 a t = b.2 a t) (hw : ∀ a, 5 ≤ a → a ≤ 6 → ∀ t, t < 6 → b'.2 a t = b.2 a t) (hg : ∀ i, i < 129 → g' i = g i) : Bd b' g' := by
  obtain ⟨p, F, L, W, w, ⟨S, B, G, v1, v2⟩, hS⟩ := h
  obtain ⟨b1, b2, b3, b4, b5, b6⟩ := B
  obtain ⟨k1, k2, k3, k4, k5, k6⟩ := G
  have h16 := S.2.2.2.2.1
  have h6 := S.2.2.2.2.2.2.1
  refine ⟨p, F, L, W, w, ⟨S, ⟨fun u hu => ?_, ?_, ?_, ?_, fun l q hq => ?_, fun t q hq => ?_⟩, ⟨fun u hu => ?_, ?_, ?_, ?_, fun l q hq => ?_, fun t q hq => ?_⟩, ?_, ?_⟩, hS⟩
  · rw [h0 u hu]; exact b1 u hu
  · rw [hs 0 (by omega)]; exact b2
  · rw [hs 3 (by omega)]; exact b3
  · rw [hs 4 (by omega)]; exact b4
  · have := get_lt hq
    rw [hl 1 (by omega) (by omega) l (by omega), hl 2 (by omega) (by omega) l (by omega), hl 3 (by omega) (by omega) l (by omega), hl 4 (by omega) (by omega) l (by omega)]; exact b5 l q hq
  · have := get_lt hq
    rw [hw 5 (by omega) (by omega) t (by omega), hw 6 (by omega) (by omega) t (by omega)]; exact b6 t q hq
  · rw [hg u (by omega)]; exact k1 u hu
  · rw [hg 126 (by omega)]; exact k2
  · rw [hg 64 (by omega)]; exact k3
  · rw [hg 113 (by omega)]; exact k4
  · have := get_lt hq
    rw [hg (65 + l) (by omega), hg (81 + l) (by omega), hg (97 + l) (by omega)]; exact k5 l q hq
  · have := get_lt hq
    rw [hg (114 + t) (by omega), hg (120 + t) (by omega)]; exact k6 t q hq
  · rw [hs 1 (by omega), hg 127 (by omega)]; exact v1
  · rw [hs 2 (by omega), hg 128 (by omega)]; exact v2
theorem Bd.g {b : BD} {g g' : Nat → Int32} (h : Bd b g) (hg : ∀ i, i < 129 → g' i = g i) : Bd b g' := h.cg (fun _ _ => rfl) (fun _ _ => rfl) (fun _ _ _ _ _ => rfl) (fun _ _ _ _ _ => rfl) hg
/-- copyFrom -/
theorem Bd.cp {b c : BD} {g : Nat → Int32} (h : Bd b g) : Bd (cpB b c) g := by
  refine h.cg (fun i hi => ?_) (fun u hu => ?_) (fun a h1 h2 t ht => ?_) (fun a h1 h2 t ht => ?_) (fun _ _ => rfl)
  · rcases (show i = 0 ∨ i = 1 ∨ i = 2 ∨ i = 3 ∨ i = 4 by omega) with rfl | rfl | rfl | rfl | rfl <;> rfl
  · show cpy 64 (b.2 0) (c.2 0) u = _
    unfold cpy; rw [if_pos hu]
  · rcases (show a = 1 ∨ a = 2 ∨ a = 3 ∨ a = 4 by omega) with rfl | rfl | rfl | rfl
    · show cpy 16 (b.2 1) (c.2 1) t = _
      unfold cpy; rw [if_pos ht]
    · show cpy 16 (b.2 2) (c.2 2) t = _
      unfold cpy; rw [if_pos ht]
    · show cpy 16 (b.2 3) (c.2 3) t = _
      unfold cpy; rw [if_pos ht]
    · show cpy 16 (b.2 4) (c.2 4) t = _
      unfold cpy; rw [if_pos ht]
  · rcases (show a = 5 ∨ a = 6 by omega) with rfl | rfl
    · show cpy 6 (b.2 5) (c.2 5) t = _
      unfold cpy; rw [if_pos ht]
    · show cpy 6 (b.2 6) (c.2 6) t = _
      unfold cpy; rw [if_pos ht]
/-- a character -/
def Ch (x : Int32) : Prop := ∃ c, c < 65536 ∧ x = nI c
def HR (B : Nat → BD) (s : Nat → Int32) (a : Nat → Nat → Int32) : Prop := ∃ n c, n < 8 ∧ c ≤ 8 ∧ s 0 = nI n ∧ s 1 = nI c ∧ s 11 = nI c ∧ ∀ i, i < c → Bd (B (3 + (n + 8 - c + i) % 8)) (fun k => a 7 (129 * i + k))
def SN (B : Nat → BD) (s : Nat → Int32) (a : Nat → Nat → Int32) : Prop := s 8 = s 12 ∧ (s 12 = 0 ∨ (s 12 = 1 ∧ Bd (B 2) (a 8)))
def LN (s : Nat → Int32) (a : Nat → Nat → Int32) : Prop := ∃ k, k ≤ 384 ∧ s 2 = nI k ∧ s 18 = nI k ∧ (∀ i, i < k → a 0 i = a 10 i) ∧ (∀ i, Ch (a 0 i)) ∧ ∀ i, Ch (a 10 i)
def IN (s : Nat → Int32) (a : Nat → Nat → Int32) : Prop := ∃ k, k ≤ 60 ∧ s 4 = nI k ∧ s 13 = nI k ∧ ∀ i, i < k → a 4 i = a 9 i ∧ Ch (a 4 i)
def RF (B : Nat → BD) (s : Nat → Int32) (a : Nat → Nat → Int32) : Prop := Bd (B 0) (a 5) ∧ HR B s a ∧ SN B s a ∧ s 9 = s 15 ∧ s 10 = s 16 ∧ s 7 = s 14 ∧ LN s a ∧ IN s a
/-- the class and the reference stand alike -/
def Rel (X : GS) : Prop := RF X.1 X.2.1 X.2.2.1
theorem HR.same {B B' : Nat → BD} {s s' : Nat → Int32} {a a' : Nat → Nat → Int32} (h : HR B s a) (hB : ∀ j, 3 ≤ j → B' j = B j) (h0 : s' 0 = s 0) (h1 : s' 1 = s 1) (h11 : s' 11 = s 11) (h7 : a' 7 = a 7) : HR B' s' a' := by
  obtain ⟨n, c, i1, i2, i3, i4, i5, i6⟩ := h
  refine ⟨n, c, i1, i2, by rw [h0, i3], by rw [h1, i4], by rw [h11, i5], fun i hi => ?_⟩
  rw [hB _ (by omega), h7]
  exact i6 i hi
theorem SN.same {B B' : Nat → BD} {s s' : Nat → Int32} {a a' : Nat → Nat → Int32} (h : SN B s a) (hB : B' 2 = B 2) (h0 : s' 8 = s 8) (h1 : s' 12 = s 12) (h8 : a' 8 = a 8) : SN B' s' a' := by
  unfold SN
  rw [hB, h0, h1, h8]
  exact h
theorem LN.same {s s' : Nat → Int32} {a a' : Nat → Nat → Int32} (h : LN s a) (h0 : s' 2 = s 2) (h1 : s' 18 = s 18) (h2 : a' 0 = a 0) (h3 : a' 10 = a 10) : LN s' a' := by
  unfold LN
  rw [h0, h1, h2, h3]
  exact h
theorem IN.same {s s' : Nat → Int32} {a a' : Nat → Nat → Int32} (h : IN s a) (h0 : s' 4 = s 4) (h1 : s' 13 = s 13) (h2 : a' 4 = a 4) (h3 : a' 9 = a 9) : IN s' a' := by
  unfold IN
  rw [h0, h1, h2, h3]
  exact h
/-- what no later call can see -/
theorem Rel.same {X Y : GS} (h : Rel X) (hB : ∀ j, ¬ j = 1 → Y.1 j = X.1 j) (hs : ∀ k, ¬ k = 3 → ¬ k = 5 → ¬ k = 6 → ¬ k = 17 → ¬ k = 19 → ¬ k = 20 → ¬ k = 21 → Y.2.1 k = X.2.1 k) (h5 : ∀ i, i < 129 → Y.2.2.1 5 i = X.2.2.1 5 i) (ha : ∀ k, ¬ k = 1 → ¬ k = 2 → ¬ k = 3 → ¬ k = 5 → ¬ k = 6 → ¬ k = 11 → Y.2.2.1 k = X.2.2.1 k) : Rel Y := by
  obtain ⟨h1, h2, h3, h4, h5', h6, h7, h8⟩ := h
  have S := fun k (z : ¬ k = 3 ∧ ¬ k = 5 ∧ ¬ k = 6 ∧ ¬ k = 17 ∧ ¬ k = 19 ∧ ¬ k = 20 ∧ ¬ k = 21) => hs k z.1 z.2.1 z.2.2.1 z.2.2.2.1 z.2.2.2.2.1 z.2.2.2.2.2.1 z.2.2.2.2.2.2
  have A := fun k (z : ¬ k = 1 ∧ ¬ k = 2 ∧ ¬ k = 3 ∧ ¬ k = 5 ∧ ¬ k = 6 ∧ ¬ k = 11) => ha k z.1 z.2.1 z.2.2.1 z.2.2.2.1 z.2.2.2.2.1 z.2.2.2.2.2
  refine ⟨?_, h2.same (fun j hj => hB j (by omega)) (S 0 (by decide)) (S 1 (by decide)) (S 11 (by decide)) (A 7 (by decide)), h3.same (hB 2 (by decide)) (S 8 (by decide)) (S 12 (by decide)) (A 8 (by decide)), ?_, ?_, ?_, h7.same (S 2 (by decide)) (S 18 (by decide)) (A 0 (by decide)) (A 10 (by decide)), h8.same (S 4 (by decide)) (S 13 (by decide)) (A 4 (by decide)) (A 9 (by decide))⟩
  · rw [hB 0 (by decide)]; exact h1.g h5
  · rw [S 9 (by decide), S 15 (by decide)]; exact h4
  · rw [S 10 (by decide), S 16 (by decide)]; exact h5'
  · rw [S 7 (by decide), S 14 (by decide)]; exact h6
theorem keep0_eq {X : GS} {b : BD} {n c : Nat} (hn : n < 8) (hc : c ≤ 8) (h0 : X.2.1 0 = nI n) (h1 : X.2.1 1 = nI c) : x_X1_keep0 X b = uS (uS (uB X (3 + n) (cpB b (X.1 (3 + n)))) 0 (nI ((n + 1) % 8))) 1 (nI (if c < 8 then c + 1 else 8)) := by
  have e0 : nx X = n := by show (X.2.1 0).toNatClampNeg = n; rw [h0, nI_clamp (by omega)]
  have e1 : (uB X (3 + n) (cpB b (X.1 (3 + n)))).2.1 0 = nI n := h0
  have e2 : (uB X (3 + n) (cpB b (X.1 (3 + n)))).2.1 1 = nI c := h1
  have e3 : (if (8 : Int32) < nI c + 1 then 8 else nI c + 1) = nI (if c < 8 then c + 1 else 8) := by
    rw [nI_1]
    by_cases d : c < 8
    · rw [if_neg (nltL (k := 8) (x := 8) rfl (by omega) (by omega)), if_pos d]
    · rw [if_pos (ltL (k := 8) (x := 8) rfl (by omega) (by omega)), if_neg d]; rfl
  unfold x_X1_keep0
  rw [e0, e1, e2, e3, nI_1]
  by_cases d : n + 1 < 8
  · rw [if_neg (geL (k := 8) (x := 8) rfl d (by omega)), Nat.mod_eq_of_lt d]
  · have : n = 7 := by omega
    subst this
    rw [if_pos (by decide)]
    rfl
theorem keep1_eq (X : GS) : x_X1_keep1 X = x_X1_keep0 X (X.1 1) := rfl
theorem lp_shift : ∀ (j i : Nat) (X : GS), i + j = 903 → ∃ f : Nat → Int32, lp_X8_kept_33 j i X = some (uA X 7 f) ∧ ∀ x, f x = if i ≤ x ∧ x < 903 then X.2.2.1 7 (x + 129) else X.2.2.1 7 x := by
  intro j
  induction j with
  | zero => intro i X hi; exact ⟨X.2.2.1 7, by rw [lp_X8_kept_33, uA_self], fun x => by rw [if_neg (by omega)]⟩
  | succ j ih =>
    intro i X hi
    obtain ⟨f, h3, h4⟩ := ih (i + 1) (uA X 7 (up (X.2.2.1 7) i (X.2.2.1 7 (i + 129)))) (by omega)
    refine ⟨f, ?_, fun x => ?_⟩
    · rw [lp_X8_kept_33, h3, uA_uA]
    · rw [h4 x, uA_at]
      by_cases c1 : i + 1 ≤ x ∧ x < 903
      · rw [if_pos c1, if_pos (by omega), up_ne (by omega)]
      · rw [if_neg c1]
        by_cases c2 : x = i
        · subst c2; rw [up_self, if_pos (by omega)]
        · rw [up_ne c2, if_neg (by omega)]
theorem looks_eq {X : GS} : ∃ f : Nat → Int32, m_X8_looksBack X = some (uA X 6 f) ∧ ∀ i, i < 129 → f i = X.2.2.1 5 i := by
  obtain ⟨f, h1, h2⟩ := copy_132_133 (X := X) (at0 := 0) (th := 0) (by omega) (by omega)
  refine ⟨f, ?_, fun i hi => ?_⟩
  · unfold m_X8_looksBack
    have h1' : m_X8_copy_132_133 X 0 0 = some (uA X 6 f) := h1
    rw [h1', bnd1_some]
  · rw [h2, if_pos (by omega), Nat.zero_add, Nat.sub_zero]
/-- a change is kept -/
theorem kept_eq {X : GS} {v : Int32} {c : Nat} (ht : X.2.1 19 = 0) (hc : c ≤ 8) (h11 : X.2.1 11 = nI c) : ∃ f : Nat → Int32, m_X8_kept X v = some (v, uS (uA X 7 f) 11 (nI (if c < 8 then c + 1 else 8))) ∧
    (∀ i k, i < (if c < 8 then c else 7) → k < 129 → f (129 * i + k) = if c < 8 then X.2.2.1 7 (129 * i + k) else X.2.2.1 7 (129 * (i + 1) + k)) ∧ ∀ k, k < 129 → f (129 * (if c < 8 then c else 7) + k) = X.2.2.1 6 k := by
  unfold m_X8_kept
  rw [if_pos ht, h11]
  by_cases d : c < 8
  · rw [if_neg (neL (k := 8) (x := 8) rfl (by omega) (by omega) (by omega)), if_pos d]
    have e : nI c * 129 = nI (c * 129) := nI_mul c 129
    obtain ⟨f, h1, h2⟩ := copy_133_134 (X := X) (at0 := 0) (th := c * 129) (by omega) (by omega)
    have h1' : m_X8_copy_133_134 X 0 (nI (c * 129)) = some (uA X 7 f) := h1
    refine ⟨f, ?_, fun i k hi hk => ?_, fun k hk => ?_⟩
    · rw [e, h1', bnd1_some, show (uA X 7 f).2.1 11 = nI c from h11, nI_1]
    · rw [if_pos d] at hi
      rw [h2, if_neg (by omega), if_pos d]
    · rw [if_pos d, h2, if_pos (by omega), show 0 + (129 * c + k - c * 129) = k by omega]
  · have : c = 8 := by omega
    subst this
    obtain ⟨f0, s1, s2⟩ := lp_shift 903 0 X (by omega)
    rw [if_pos (show (nI 8 : Int32) = 8 from rfl), s1, bnd1_some, show (uA X 7 f0).2.1 11 = nI 8 from h11, show nI 8 - 1 = nI 7 from by decide, show (nI 7 : Int32) * 129 = nI 903 from by decide]
    obtain ⟨f, h1, h2⟩ := copy_133_134 (X := uS (uA X 7 f0) 11 (nI 7)) (at0 := 0) (th := 903) (by omega) (by omega)
    have h1' : m_X8_copy_133_134 (uS (uA X 7 f0) 11 (nI 7)) 0 (nI 903) = some (uA (uS (uA X 7 f0) 11 (nI 7)) 7 f) := h1
    have e6 : (uS (uA X 7 f0) 11 (nI 7)).2.2.1 6 = X.2.2.1 6 := uA_ne (X := X) (k := 7) (f := f0) (by decide)
    have e7 : (uS (uA X 7 f0) 11 (nI 7)).2.2.1 7 = f0 := uA_at (X := X)
    rw [e6, e7] at h2
    refine ⟨f, ?_, fun i k hi hk => ?_, fun k hk => ?_⟩
    · rw [h1', bnd1_some, show (uA (uS (uA X 7 f0) 11 (nI 7)) 7 f).2.1 11 = nI 7 from uS_at (X := uA X 7 f0) (k := 11) (v := nI 7)]
      have e9 : uA (uS (uA X 7 f0) 11 (nI 7)) 7 f = uS (uA X 7 f) 11 (nI 7) := by
        show uS (uA (uA X 7 f0) 7 f) 11 (nI 7) = _
        rw [uA_uA]
      rw [e9, show (nI 7 : Int32) + 1 = nI 8 from by decide]
      simp only [uS, up_up]
      rfl
    · rw [if_neg (by omega)] at hi
      rw [h2, if_neg (by omega), s2, if_pos (by omega), if_neg (by omega), show 129 * i + k + 129 = 129 * (i + 1) + k by omega]
    · rw [if_neg (by omega), h2, if_pos (by omega), show 0 + (129 * 7 + k - 903) = k by omega]
/-- what was thrown: all is as before -/
theorem kept_thrown {X : GS} {v : Int32} (ht : ¬ X.2.1 19 = 0) : ∃ f : Nat → Int32, m_X8_kept X v = some (0, uA X 5 f) ∧ ∀ i, i < 129 → f i = X.2.2.1 6 i := by
  obtain ⟨f, h1, h2⟩ := copy_133_132 (X := X) (at0 := 0) (th := 0) (by omega) (by omega)
  have h1' : m_X8_copy_133_132 X 0 0 = some (uA X 5 f) := h1
  refine ⟨f, ?_, fun i hi => ?_⟩
  · unfold m_X8_kept
    rw [if_neg ht, h1', bnd1_some]
  · rw [h2, if_pos (by omega), Nat.zero_add, Nat.sub_zero]
/-- the boards ahead of the latest changes, one more -/
theorem HR.push {B : Nat → BD} {s' : Nat → Int32} {a a' : Nat → Nat → Int32} {B' : Nat → BD} {b : BD} {g : Nat → Int32} {n c : Nat} (hn : n < 8) (hc : c ≤ 8) (h : ∀ i, i < c → Bd (B (3 + (n + 8 - c + i) % 8)) (fun k => a 7 (129 * i + k))) (hb : Bd b g)
    (hB : B' (3 + n) = b) (hB2 : ∀ j, 3 ≤ j → ¬ j = 3 + n → B' j = B j) (h0 : s' 0 = nI ((n + 1) % 8)) (h1 : s' 1 = nI (if c < 8 then c + 1 else 8)) (h11 : s' 11 = nI (if c < 8 then c + 1 else 8))
    (f1 : ∀ i k, i < (if c < 8 then c else 7) → k < 129 → a' 7 (129 * i + k) = if c < 8 then a 7 (129 * i + k) else a 7 (129 * (i + 1) + k)) (f2 : ∀ k, k < 129 → a' 7 (129 * (if c < 8 then c else 7) + k) = g k) : HR B' s' a' := by
  refine ⟨(n + 1) % 8, if c < 8 then c + 1 else 8, Nat.mod_lt _ (by omega), by split <;> omega, h0, h1, h11, fun i hi => ?_⟩
  by_cases d : c < 8
  · rw [if_pos d] at hi f1 f2 ⊢
    by_cases e : i = c
    · subst e
      rw [show 3 + ((n + 1) % 8 + 8 - (i + 1) + i) % 8 = 3 + n by omega, hB]
      exact hb.g (fun k hk => f2 k hk)
    · rw [show 3 + ((n + 1) % 8 + 8 - (c + 1) + i) % 8 = 3 + (n + 8 - c + i) % 8 by omega, hB2 _ (by omega) (by omega)]
      refine (h i (by omega)).g (fun k hk => ?_)
      rw [f1 i k (by omega) hk, if_pos d]
  · have : c = 8 := by omega
    subst this
    rw [if_neg (by omega)] at hi f1 f2 ⊢
    by_cases e : i = 7
    · subst e
      rw [show 3 + ((n + 1) % 8 + 8 - 8 + 7) % 8 = 3 + n by omega, hB]
      exact hb.g (fun k hk => f2 k hk)
    · rw [hB2 _ (by omega) (by omega), show 3 + ((n + 1) % 8 + 8 - 8 + i) % 8 = 3 + (n + 8 - 8 + (i + 1)) % 8 by omega]
      refine (h (i + 1) (by omega)).g (fun k hk => ?_)
      rw [f1 i k (by omega) hk, if_neg (by omega)]
/-- a change of the reference, whole -/
def mFull (m : GS → Option (Int32 × GS)) (X : GS) : Option (Int32 × GS) := bnd1 (m_X8_looksBack X) fun X1 => bnd2 (m X1) fun v2 X2 => bnd2 (m_X8_kept X2 v2) fun v3 X3 => some (v3, X3)
def cod (v n1 n2 n3 : Int32) : Int32 := if v = 0 then 0 else if v = 1 then n1 else if v = 2 then n2 else n3
/-- a change: the class first, then the reference -/
theorem change_ok {X : GS} {b' : BD} {v r : Int32} {xj : GS → GS} {m : GS → Option (Int32 × GS)} {n1 n2 n3 : Int32} (R : Rel X) (O : OUT (X.2.2.1 5) b' v r xj m n1 n2 n3) (hn1 : ¬ n1 = 0) (hn2 : ¬ n2 = 0) (hn3 : ¬ n3 = 0) (o : Nat → Int64) :
    (v = 0 ∨ v = 1 ∨ v = 2 ∨ v = 3) ∧ ∃ (vb : Int32) (Y : GS), mFull m (uO (uB (if v = 0 then x_X1_keep0 (xj X) (X.1 0) else xj X) 0 (if v = 0 then b' else X.1 0)) o) = some (vb, Y) ∧ Y.2.1 19 = cod v n1 n2 n3 ∧ (v = 0 → vb = r) ∧ Y.2.2.2.1 = o ∧ Rel Y := by
  obtain ⟨R1, ⟨n, c, i1, i2, i3, i4, i5, i6⟩, R3, R4, R5, R6, R7, R8⟩ := R
  rcases O with ⟨rfl, hx, hm⟩ | ⟨rfl, hx, hm⟩ | ⟨rfl, hx, hm⟩ | ⟨rfl, d1, d2, hd, hx, hm⟩
  · refine ⟨Or.inl rfl, ?_⟩
    rw [if_pos rfl, if_pos rfl, hx, keep0_eq i1 i2 i3 i4]
    generalize hX1 : uO (uB (uS (uS (uB X (3 + n) (cpB (X.1 0) (X.1 (3 + n)))) 0 (nI ((n + 1) % 8))) 1 (nI (if c < 8 then c + 1 else 8))) 0 b') o = X1
    have q1 : X1.1 = up (up X.1 (3 + n) (cpB (X.1 0) (X.1 (3 + n)))) 0 b' := by rw [← hX1]; rfl
    have q2 : X1.2.1 = up (up X.2.1 0 (nI ((n + 1) % 8))) 1 (nI (if c < 8 then c + 1 else 8)) := by rw [← hX1]; rfl
    have q3 : X1.2.2.1 = X.2.2.1 := by rw [← hX1]; rfl
    obtain ⟨f, l1, l2⟩ := looks_eq (X := X1)
    obtain ⟨g', B', m'⟩ := hm (uA X1 6 f) (by show up X1.2.2.1 6 f 5 = _; rw [up_ne (by decide), q3])
    obtain ⟨h, k1, k2, k3⟩ := kept_eq (X := uS (uA (uA X1 6 f) 5 g') 19 0) (v := r) (c := c) uS_at i2 (by show up X1.2.1 19 0 11 = _; rw [up_ne (by decide), q2, up_ne (by decide), up_ne (by decide), i5])
    have A7 : (uS (uA (uA X1 6 f) 5 g') 19 0).2.2.1 7 = X.2.2.1 7 := by show up (up X1.2.2.1 6 f) 5 g' 7 = _; rw [up_ne (by decide), up_ne (by decide), q3]
    have A6 : (uS (uA (uA X1 6 f) 5 g') 19 0).2.2.1 6 = f := by show up (up X1.2.2.1 6 f) 5 g' 6 = _; rw [up_ne (by decide), up_self]
    rw [A7] at k2
    rw [A6] at k3
    refine ⟨r, uS (uA (uS (uA (uA X1 6 f) 5 g') 19 0) 7 h) 11 (nI (if c < 8 then c + 1 else 8)), ?_, ?_, fun _ => rfl, (show X1.2.2.2.1 = o by rw [← hX1]; rfl), ?_⟩
    · unfold mFull
      rw [l1, bnd1_some, m', bnd2_some, k1, bnd2_some]
    · rw [uS_ne (by decide)]
      exact uS_at (X := uA (uA X1 6 f) 5 g') (k := 19) (v := 0)
    · have S : ∀ k, ¬ k = 0 → ¬ k = 1 → ¬ k = 11 → ¬ k = 19 → (uS (uA (uS (uA (uA X1 6 f) 5 g') 19 0) 7 h) 11 (nI (if c < 8 then c + 1 else 8))).2.1 k = X.2.1 k := fun k z0 z1 z2 z3 => by
        show up (up X1.2.1 19 0) 11 (nI (if c < 8 then c + 1 else 8)) k = _
        rw [up_ne z2, up_ne z3, q2, up_ne z1, up_ne z0]
      have A : ∀ k, ¬ k = 5 → ¬ k = 6 → ¬ k = 7 → (uS (uA (uS (uA (uA X1 6 f) 5 g') 19 0) 7 h) 11 (nI (if c < 8 then c + 1 else 8))).2.2.1 k = X.2.2.1 k := fun k z0 z1 z2 => by
        show up (up (up X1.2.2.1 6 f) 5 g') 7 h k = _
        rw [up_ne z2, up_ne z0, up_ne z1, q3]
      have Bq : ∀ j, (uS (uA (uS (uA (uA X1 6 f) 5 g') 19 0) 7 h) 11 (nI (if c < 8 then c + 1 else 8))).1 j = up (up X.1 (3 + n) (cpB (X.1 0) (X.1 (3 + n)))) 0 b' j := fun j => by show X1.1 j = _; rw [q1]
      have l2' : ∀ i, i < 129 → f i = X.2.2.1 5 i := fun i hi => by rw [l2 i hi, q3]
      have S0 : (uS (uA (uS (uA (uA X1 6 f) 5 g') 19 0) 7 h) 11 (nI (if c < 8 then c + 1 else 8))).2.1 0 = nI ((n + 1) % 8) := by
        show up (up X1.2.1 19 0) 11 (nI (if c < 8 then c + 1 else 8)) 0 = _
        rw [up_ne (by decide), up_ne (by decide), q2, up_ne (by decide), up_self]
      have S1 : (uS (uA (uS (uA (uA X1 6 f) 5 g') 19 0) 7 h) 11 (nI (if c < 8 then c + 1 else 8))).2.1 1 = nI (if c < 8 then c + 1 else 8) := by
        show up (up X1.2.1 19 0) 11 (nI (if c < 8 then c + 1 else 8)) 1 = _
        rw [up_ne (by decide), up_ne (by decide), q2, up_self]
      have A5 : (uS (uA (uS (uA (uA X1 6 f) 5 g') 19 0) 7 h) 11 (nI (if c < 8 then c + 1 else 8))).2.2.1 5 = g' := by
        show up (up (up X1.2.2.1 6 f) 5 g') 7 h 5 = _
        rw [up_ne (by decide), up_self]
      have A7' : (uS (uA (uS (uA (uA X1 6 f) 5 g') 19 0) 7 h) 11 (nI (if c < 8 then c + 1 else 8))).2.2.1 7 = h := by
        show up (up (up X1.2.2.1 6 f) 5 g') 7 h 7 = _
        rw [up_self]
      have S11 : (uS (uA (uS (uA (uA X1 6 f) 5 g') 19 0) 7 h) 11 (nI (if c < 8 then c + 1 else 8))).2.1 11 = nI (if c < 8 then c + 1 else 8) := uS_at
      generalize uS (uA (uS (uA (uA X1 6 f) 5 g') 19 0) 7 h) 11 (nI (if c < 8 then c + 1 else 8)) = Z at *
      have D := fun k (z : ¬ k = 0 ∧ ¬ k = 1 ∧ ¬ k = 11 ∧ ¬ k = 19) => S k z.1 z.2.1 z.2.2.1 z.2.2.2
      have E := fun k (z : ¬ k = 5 ∧ ¬ k = 6 ∧ ¬ k = 7) => A k z.1 z.2.1 z.2.2
      refine ⟨?_, HR.push (a := X.2.2.1) (B := X.1) (g := f) i1 i2 i6 (b := cpB (X.1 0) (X.1 (3 + n))) (R1.cp.g l2') ?_ (fun j h1 h2 => ?_) S0 S1 S11 (by rw [A7']; exact k2) (by rw [A7']; exact k3), R3.same ?_ (D 8 (by decide)) (D 12 (by decide)) (E 8 (by decide)), ?_, ?_, ?_, R7.same (D 2 (by decide)) (D 18 (by decide)) (E 0 (by decide)) (E 10 (by decide)), R8.same (D 4 (by decide)) (D 13 (by decide)) (E 4 (by decide)) (E 9 (by decide))⟩
      · rw [Bq, up_self, A5]; exact B'
      · rw [Bq, up_ne (by omega), up_self]
      · rw [Bq, up_ne (by omega), up_ne h2]
      · rw [Bq, up_ne (by omega), up_ne (by omega)]
      · rw [D 9 (by decide), D 15 (by decide)]; exact R4
      · rw [D 10 (by decide), D 16 (by decide)]; exact R5
      · rw [D 7 (by decide), D 14 (by decide)]; exact R6
  · refine ⟨Or.inr (Or.inl rfl), ?_⟩
    rw [if_neg (by decide), if_neg (by decide), hx, uB_eta]
    obtain ⟨f, l1, l2⟩ := looks_eq (X := uO X o)
    have m' := hm (uA (uO X o) 6 f) (uA_ne (by decide))
    obtain ⟨h, k1, k2⟩ := kept_thrown (X := uS (uS (uA (uO X o) 6 f) 19 n1) 17 0) (v := 0) (by rw [uS_ne (by decide), uS_at]; exact hn1)
    refine ⟨0, uA (uS (uS (uA (uO X o) 6 f) 19 n1) 17 0) 5 h, ?_, ?_, fun h => absurd h (by decide), rfl, Rel.same (X := X) ⟨R1, ⟨n, c, i1, i2, i3, i4, i5, i6⟩, R3, R4, R5, R6, R7, R8⟩ (fun j _ => rfl) (fun k _ _ _ z4 z5 _ _ => ?_) (fun i hi => ?_) (fun k _ _ _ z4 z5 _ => ?_)⟩
    · unfold mFull
      rw [l1, bnd1_some, m', bnd2_some, k1, bnd2_some]
    · show up (up X.2.1 19 n1) 17 0 19 = cod 1 n1 n2 n3
      rw [up_ne (by decide), up_self]; rfl
    · show up (up X.2.1 19 n1) 17 0 k = _
      rw [up_ne z4, up_ne z5]
    · rw [uA_at, k2 i hi]
      show up X.2.2.1 6 f 6 i = _
      rw [up_self, l2 i hi]; rfl
    · rw [uA_ne z4]
      show up X.2.2.1 6 f k = _
      rw [up_ne z5]
  · refine ⟨Or.inr (Or.inr (Or.inl rfl)), ?_⟩
    rw [if_neg (by decide), if_neg (by decide), hx, uB_eta]
    obtain ⟨f, l1, l2⟩ := looks_eq (X := uO X o)
    have m' := hm (uA (uO X o) 6 f) (uA_ne (by decide))
    obtain ⟨h, k1, k2⟩ := kept_thrown (X := uS (uS (uA (uO X o) 6 f) 19 n2) 17 0) (v := 0) (by rw [uS_ne (by decide), uS_at]; exact hn2)
    refine ⟨0, uA (uS (uS (uA (uO X o) 6 f) 19 n2) 17 0) 5 h, ?_, ?_, fun h => absurd h (by decide), rfl, Rel.same (X := X) ⟨R1, ⟨n, c, i1, i2, i3, i4, i5, i6⟩, R3, R4, R5, R6, R7, R8⟩ (fun j _ => rfl) (fun k _ _ _ z4 z5 _ _ => ?_) (fun i hi => ?_) (fun k _ _ _ z4 z5 _ => ?_)⟩
    · unfold mFull
      rw [l1, bnd1_some, m', bnd2_some, k1, bnd2_some]
    · show up (up X.2.1 19 n2) 17 0 19 = cod 2 n1 n2 n3
      rw [up_ne (by decide), up_self]; rfl
    · show up (up X.2.1 19 n2) 17 0 k = _
      rw [up_ne z4, up_ne z5]
    · rw [uA_at, k2 i hi]
      show up X.2.2.1 6 f 6 i = _
      rw [up_self, l2 i hi]; rfl
    · rw [uA_ne z4]
      show up X.2.2.1 6 f k = _
      rw [up_ne z5]
  · refine ⟨Or.inr (Or.inr (Or.inr rfl)), ?_⟩
    rw [if_neg (by decide), if_neg (by decide), hx]
    have eB : uB (uS (uS X 9 d1) 10 d2) 0 (X.1 0) = uS (uS X 9 d1) 10 d2 := uB_eta (X := uS (uS X 9 d1) 10 d2)
    rw [eB]
    obtain ⟨f, l1, l2⟩ := looks_eq (X := uO (uS (uS X 9 d1) 10 d2) o)
    obtain ⟨g', m'⟩ := hm (uA (uO (uS (uS X 9 d1) 10 d2) o) 6 f) (uA_ne (by decide))
    obtain ⟨h, k1, k2⟩ := kept_thrown (X := uS (uS (uS (uS (uA (uA (uO (uS (uS X 9 d1) 10 d2) o) 6 f) 5 g') 15 d1) 16 d2) 19 n3) 17 1) (v := 0) (by rw [uS_ne (by decide), uS_at]; exact hn3)
    have S : ∀ k, (uA (uS (uS (uS (uS (uA (uA (uO (uS (uS X 9 d1) 10 d2) o) 6 f) 5 g') 15 d1) 16 d2) 19 n3) 17 1) 5 h).2.1 k = up (up (up (up (up (up X.2.1 9 d1) 10 d2) 15 d1) 16 d2) 19 n3) 17 1 k := fun k => rfl
    have A : ∀ k, (uA (uS (uS (uS (uS (uA (uA (uO (uS (uS X 9 d1) 10 d2) o) 6 f) 5 g') 15 d1) 16 d2) 19 n3) 17 1) 5 h).2.2.1 k = up (up (up X.2.2.1 6 f) 5 g') 5 h k := fun k => rfl
    have Bq : (uA (uS (uS (uS (uS (uA (uA (uO (uS (uS X 9 d1) 10 d2) o) 6 f) 5 g') 15 d1) 16 d2) 19 n3) 17 1) 5 h).1 = X.1 := rfl
    have k2' : ∀ i, i < 129 → h i = X.2.2.1 5 i := by
      intro i hi
      rw [k2 i hi]
      show up (up X.2.2.1 6 f) 5 g' 6 i = _
      rw [up_ne (by decide), up_self, l2 i hi]; rfl
    refine ⟨0, uA (uS (uS (uS (uS (uA (uA (uO (uS (uS X 9 d1) 10 d2) o) 6 f) 5 g') 15 d1) 16 d2) 19 n3) 17 1) 5 h, ?_, ?_, fun h => absurd h (by decide), rfl, ?_⟩
    · unfold mFull
      rw [l1, bnd1_some, m', bnd2_some, k1, bnd2_some]
    · rw [S, up_ne (by decide), up_self]; rfl
    · generalize uA (uS (uS (uS (uS (uA (uA (uO (uS (uS X 9 d1) 10 d2) o) 6 f) 5 g') 15 d1) 16 d2) 19 n3) 17 1) 5 h = Z at *
      have D : ∀ k, (¬ k = 9 ∧ ¬ k = 10 ∧ ¬ k = 15 ∧ ¬ k = 16 ∧ ¬ k = 17 ∧ ¬ k = 19) → Z.2.1 k = X.2.1 k := fun k z => by
        rw [S, up_ne z.2.2.2.2.1, up_ne z.2.2.2.2.2, up_ne z.2.2.2.1, up_ne z.2.2.1, up_ne z.2.1, up_ne z.1]
      have E : ∀ k, (¬ k = 5 ∧ ¬ k = 6) → Z.2.2.1 k = X.2.2.1 k := fun k z => by rw [A, up_ne z.1, up_ne z.1, up_ne z.2]
      refine ⟨?_, HR.same ⟨n, c, i1, i2, i3, i4, i5, i6⟩ (fun j _ => by rw [Bq]) (D 0 (by decide)) (D 1 (by decide)) (D 11 (by decide)) (E 7 (by decide)), R3.same (by rw [Bq]) (D 8 (by decide)) (D 12 (by decide)) (E 8 (by decide)), ?_, ?_, ?_, R7.same (D 2 (by decide)) (D 18 (by decide)) (E 0 (by decide)) (E 10 (by decide)), R8.same (D 4 (by decide)) (D 13 (by decide)) (E 4 (by decide)) (E 9 (by decide))⟩
      · rw [Bq, A, up_self]; exact R1.g k2'
      · rw [S, S]
        rw [up_ne (show ¬ 9 = 17 by decide), up_ne (show ¬ 9 = 19 by decide), up_ne (show ¬ 9 = 16 by decide), up_ne (show ¬ 9 = 15 by decide), up_ne (show ¬ 9 = 10 by decide), up_self, up_ne (show ¬ 15 = 17 by decide), up_ne (show ¬ 15 = 19 by decide), up_ne (show ¬ 15 = 16 by decide), up_self]
      · rw [S, S]
        rw [up_ne (show ¬ 10 = 17 by decide), up_ne (show ¬ 10 = 19 by decide), up_ne (show ¬ 10 = 16 by decide), up_ne (show ¬ 10 = 15 by decide), up_self, up_ne (show ¬ 16 = 17 by decide), up_ne (show ¬ 16 = 19 by decide), up_self]
      · rw [D 7 (by decide), D 14 (by decide)]; exact R6
