/-! ===== the pure part, 22: the line and the map, characters ===== -/
theorem ch_nar {c : Nat} (h : c < 65536) : vp_nar .char (nI c) = nI c := by
  unfold vp_nar
  rw [(pk_charN h).1]
theorem ch_u16 {c : Nat} (h : c < 65536) : ((nI c).toUInt32 % 65536).toInt32 = nI c := by
  rw [pk_char]
  congr 1
  show (BitVec.ofNat 32 c).toNat % 65536 = c
  rw [BitVec.toNat_ofNat]
  omega
theorem Ch_u16 (x : Int32) : Ch (x.toUInt32 % 65536).toInt32 := ⟨x.toBitVec.toNat % 65536, Nat.mod_lt _ (by omega), pk_char x⟩
theorem Ch.nar {x : Int32} (h : Ch x) : vp_nar .char x = x := by
  obtain ⟨c, hc, rfl⟩ := h
  exact ch_nar hc
theorem digits_all : ∀ n, n < 100 → (48 + (nI n - nI n / 10 * 10) = nI (48 + n % 10) ∧ 48 + nI n / 10 = nI (48 + n / 10)) := by decide +kernel
def WS (X Y C M : GS) (k : Nat) : Prop := ∃ f f' : Nat → Int32, C = uS (uA X 0 f) 2 (nI k) ∧ M = uS (uA Y 10 f') 18 (nI k) ∧ (∀ i, i < k → f i = f' i) ∧ (∀ i, Ch (f i)) ∧ ∀ i, Ch (f' i)
section
variable {X Y C M : GS} {k : Nat}
theorem WS.g (h : WS X Y C M k) : M.2.2.1 5 = Y.2.2.1 5 := by
  obtain ⟨f, f', -, rfl, -⟩ := h
  exact uA_ne (X := Y) (k := 10) (f := f') (by decide)
theorem WS.l (h : WS X Y C M k) : C.2.1 2 = nI k ∧ M.2.1 18 = nI k := by
  obtain ⟨f, f', rfl, rfl, -⟩ := h
  exact ⟨uS_at, uS_at⟩
theorem put_ok (h : WS X Y C M k) (hk : k < 384) {c : Nat} {m s : Int32} (hc : c < 65536) (hs : s = nI c) (hm : (m.toUInt32 % 65536).toInt32 = nI c) : ∃ M', m_X8_writes M m = some M' ∧ WS X Y (x_X2_put C s) M' (k + 1) := by
  obtain ⟨e1, e2⟩ := h.l
  obtain ⟨f, f', rfl, rfl, h3, h4, h5⟩ := h
  refine ⟨uS (uA Y 10 (up f' k (nI c))) 18 (nI (k + 1)), ?_, up f k (nI c), up f' k (nI c), ?_, rfl, fun i hi => ?_, fun i => ?_, fun i => ?_⟩
  · unfold m_X8_writes
    rw [e2, if_pos (inR_nI (by omega) (by omega)), nI_clamp (by omega), hm, ch_nar hc, nI_1]
    have e : (uS (uA Y 10 f') 18 (nI k)).2.2.1 10 = f' := uA_at (X := Y)
    rw [e]
    show some (uS (uA (uS (uA Y 10 f') 18 (nI k)) 10 (up f' k (nI c))) 18 (nI (k + 1))) = _
    have e9 : uA (uS (uA Y 10 f') 18 (nI k)) 10 (up f' k (nI c)) = uS (uA Y 10 (up f' k (nI c))) 18 (nI k) := by
      show uS (uA (uA Y 10 f') 10 (up f' k (nI c))) 18 (nI k) = _
      rw [uA_uA]
    rw [e9]
    simp only [uS, up_up]
  · unfold x_X2_put
    rw [e1, if_neg (nI_pos (by omega)), if_neg (geL (k := 384) (x := 384) rfl hk (by omega)), nI_clamp (by omega), hs, ch_nar hc, nI_1]
    have e : (uS (uA X 0 f) 2 (nI k)).2.2.1 0 = f := uA_at (X := X)
    rw [e]
    have e9 : uA (uS (uA X 0 f) 2 (nI k)) 0 (up f k (nI c)) = uS (uA X 0 (up f k (nI c))) 2 (nI k) := by
      show uS (uA (uA X 0 f) 0 (up f k (nI c))) 2 (nI k) = _
      rw [uA_uA]
    rw [e9]
    simp only [uS, up_up]
  · by_cases e : i = k
    · subst e; rw [up_self, up_self]
    · rw [up_ne e, up_ne e]; exact h3 i (by omega)
  · by_cases e : i = k
    · subst e; rw [up_self]; exact ⟨c, hc, rfl⟩
    · rw [up_ne e]; exact h4 i
  · by_cases e : i = k
    · subst e; rw [up_self]; exact ⟨c, hc, rfl⟩
    · rw [up_ne e]; exact h5 i
theorem num_ok (h : WS X Y C M k) {n : Nat} (hn : n < 100) (hk : k + 1 < 384) : ∃ M' k', m_X8_writesNumber M (nI n) = some M' ∧ WS X Y (x_X2_putNumber C (nI n)) M' k' ∧ k < k' ∧ k' ≤ k + 2 := by
  obtain ⟨d1, d2⟩ := digits_all n hn
  have m1 := Nat.mod_lt n (show 0 < 10 by omega)
  unfold m_X8_writesNumber x_X2_putNumber
  rw [d1, d2]
  by_cases e : n < 10
  · rw [if_pos (leR (k := 9) (x := 9) rfl (by omega) (by omega)), if_pos (ltR (k := 10) (x := 10) rfl e (by omega))]
    obtain ⟨M', z1, z2⟩ := put_ok h (by omega) (c := 48 + n % 10) (m := nI (48 + n % 10)) (s := ((nI (48 + n % 10)).toUInt32 % 65536).toInt32) (by omega) (ch_u16 (by omega)) (ch_u16 (by omega))
    exact ⟨M', k + 1, by rw [z1]; rfl, z2, by omega, by omega⟩
  · rw [if_neg (nleR (k := 9) (x := 9) rfl (by omega) (by omega)), if_neg (nltR (k := 10) (x := 10) rfl (by omega) (by omega))]
    obtain ⟨M1, z1, z2⟩ := put_ok h (by omega) (c := 48 + n / 10) (m := nI (48 + n / 10)) (s := ((nI (48 + n / 10)).toUInt32 % 65536).toInt32) (by omega) (ch_u16 (by omega)) (ch_u16 (by omega))
    obtain ⟨M2, z3, z4⟩ := put_ok z2 (by omega) (c := 48 + n % 10) (m := nI (48 + n % 10)) (s := ((nI (48 + n % 10)).toUInt32 % 65536).toInt32) (by omega) (ch_u16 (by omega)) (ch_u16 (by omega))
    exact ⟨M2, k + 1 + 1, by rw [z1, bnd1_some, z3]; rfl, z4, by omega, by omega⟩
end
section
variable {p : Nat → Nat} {F : Nat → Bool} {L : tL} {W : tWt} {w : Nat} {b : BD} {X Y C M : GS} {k : Nat}
/-- what is written of a piece behind its size -/
def lTail (M : GS) (i : Nat) (go : GS → Option GS) : Option GS := bnd1 (m_X8_loanAt M (nI i)) fun v6 => if v6 = -1 then bnd1 (m_X8_writes M 46) fun X11 => (if v6 = -1 then go X11 else bnd1 (m_X8_writesNumber X11 v6) fun X13 => go X13) else bnd1 (m_X8_writes M 61) fun X8 => (if v6 = -1 then go X8 else bnd1 (m_X8_writesNumber X8 v6) fun X10 => go X10)
theorem wpiece_ok (B : BG p F L W w b (Y.2.2.1 5)) (h : WS X Y C M k) {i : Nat} (hi : i < 64) (h0 : p i ≠ 0) (hk : k + 4 < 384) (go : GS → Option GS) : ∃ M' k', (bnd1 (m_X8_writesNumber M (nI (p i))) fun X5 => lTail X5 i go) = go M' ∧ WS X Y (x_X0_writePiece C b (nI i)) M' k' ∧ k < k' ∧ k' ≤ k + 5 := by
  have hp := B.1.1.ple hi
  obtain ⟨M1, k1, n1, n2, n3, n4⟩ := num_ok h (show p i < 100 by omega) (by omega)
  have B1 : BG p F L W w b (M1.2.2.1 5) := B.at n2.g
  obtain ⟨v, v1, v2, v3, v4, v5, v6, v7⟩ := piece_ok B1 hi
  have : v = i := B.1.1.uniq hi v1 v2 (Nat.le_refl i) (by omega)
  subst this
  have h16 := B.1.2.2.2.2.1
  unfold x_X0_writePiece
  rw [n1, bnd1_some, v5]
  unfold lTail
  rcases v7 with ⟨-, w1, w2⟩ | ⟨-, l, hl, w1, w2⟩
  · rw [w1, w2, bnd1_some, if_neg (show ¬ (0 : Int32) ≤ -1 by decide), if_pos (show (-1 : Int32) = -1 from rfl)]
    obtain ⟨M2, z1, z2⟩ := put_ok n2 (by omega) (c := 46) (m := 46) (s := 46) (by omega) rfl (by decide)
    rw [z1, bnd1_some, if_pos (show (-1 : Int32) = -1 from rfl)]
    exact ⟨M2, k1 + 1, rfl, z2, by omega, by omega⟩
  · rw [w1, w2, bnd1_some, if_pos (nI_pos' (by omega)), if_neg (nI_m1 (by omega))]
    obtain ⟨M2, z1, z2⟩ := put_ok n2 (by omega) (c := 61) (m := 61) (s := 61) (by omega) rfl (by decide)
    obtain ⟨M3, k3, y1, y2, y3, y4⟩ := num_ok z2 (show l < 100 by omega) (by omega)
    rw [z1, bnd1_some, if_neg (nI_m1 (by omega)), y1, bnd1_some]
    exact ⟨M3, k3, rfl, y2, by omega, by omega⟩
theorem lp_line (B : BG p F L W w b (Y.2.2.1 5)) : ∀ (j i k : Nat) (C M : GS), i + j = 64 → WS X Y C M k → k ≤ 6 * i → (i = 0 → k = 0) → (0 < i → 0 < k) → ∃ M' k', lp_X8_line_7 j i M = some M' ∧ WS X Y (lp_X0_writePieces_6 b j i C) M' k' ∧ k' ≤ 384 := by
  intro j
  induction j with
  | zero => intro i k C M hi h hk _ _; exact ⟨M, k, rfl, h, by omega⟩
  | succ j ih =>
    intro i k C M hi h hk h0 h1
    have hi64 : i < 64 := by omega
    have hp := B.1.1.ple hi64
    have gi : M.2.2.1 5 i = nI (p i) := by rw [h.g]; exact B.2.2.1.1 i hi64
    obtain ⟨v, v1, v2, v3, v4, v5, v6, v7⟩ := piece_ok B hi64
    have e18 := h.l.2
    rw [lp_X8_line_7, gi, lp_X0_writePieces_6, v4]
    by_cases c : p i = 0
    · have hv : ¬ v = i := fun e => by rw [e, c] at v2; omega
      have hi0 : 0 < i := by omega
      rw [c, if_pos (show nI 0 ≤ 0 by decide), if_neg (nI_ne (by omega) (by omega) hv)]
      exact ih (i + 1) k C M (by omega) h (by omega) (by omega) (fun _ => h1 hi0)
    · have hv : v = i := B.1.1.uniq hi64 v1 v2 (Nat.le_refl i) (by omega)
      rw [if_neg (nI_nle (n := p i) (by omega) (by omega)), if_pos (show nI v = nI i by rw [hv]), e18]
      by_cases d : i = 0
      · subst d
        have hk0 := h0 rfl
        subst hk0
        obtain ⟨M', k', z1, z2, z3, z4⟩ := wpiece_ok B h hi64 c (by omega) (lp_X8_line_7 j (0 + 1))
        obtain ⟨M2, k2, y1, y2, y3⟩ := ih (0 + 1) k' _ M' (by omega) z2 (by omega) (by omega) (fun _ => by omega)
        rw [if_pos (show nI 0 ≤ 0 by decide), if_pos (show nI 0 ≤ 0 by decide)]
        exact ⟨M2, k2, z1.trans y1, y2, y3⟩
      · have hk1 := h1 (by omega)
        obtain ⟨M1, x1, x2⟩ := put_ok h (by omega) (c := 32) (m := 32) (s := 32) (by omega) rfl (by decide)
        have gi1 : M1.2.2.1 5 i = nI (p i) := by rw [x2.g]; exact B.2.2.1.1 i hi64
        obtain ⟨M', k', z1, z2, z3, z4⟩ := wpiece_ok B x2 hi64 c (by omega) (lp_X8_line_7 j (i + 1))
        obtain ⟨M2, k2, y1, y2, y3⟩ := ih (i + 1) k' _ M' (by omega) z2 (by omega) (by omega) (fun _ => by omega)
        rw [if_neg (nI_nle (n := k) (by omega) (by omega)), if_neg (nI_nle (n := i) (by omega) (by omega)), x1, bnd1_some, gi1]
        exact ⟨M2, k2, z1.trans y1, y2, y3⟩
/-- promise 21 -/
theorem line_ok (B : BG p F L W w b (Y.2.2.1 5)) (hX : ∀ i, Ch (X.2.2.1 0 i)) (hY : ∀ i, Ch (Y.2.2.1 10 i)) : ∃ (f f' : Nat → Int32) (k : Nat), x_X7_line X b = uS (uA X 0 f) 2 (nI k) ∧ m_X8_line Y = some (nI k, uS (uS (uA Y 10 f') 18 (nI k)) 19 0) ∧ k ≤ 384 ∧ (∀ i, i < k → f i = f' i) ∧ (∀ i, Ch (f i)) ∧ ∀ i, Ch (f' i) := by
  have h0 : WS X Y (uS X 2 0) (uS Y 18 0) 0 := ⟨X.2.2.1 0, Y.2.2.1 10, by rw [uA_self]; rfl, by rw [uA_self]; rfl, fun i hi => by omega, hX, hY⟩
  obtain ⟨M', k', z1, z2, z3⟩ := lp_line B 64 0 0 (uS X 2 0) (uS Y 18 0) (by omega) h0 (by omega) (fun _ => rfl) (by omega)
  have e18 := z2.l.2
  obtain ⟨f, f', e1, e2, e3, e4, e5⟩ := z2
  refine ⟨f, f', k', e1, ?_, z3, e3, e4, e5⟩
  unfold m_X8_line
  rw [z1, bnd1_some, done_eq, bnd2_some, e18, e2]
theorem lp_map (B : BG p F L W w b (Y.2.2.1 5)) : ∀ (j i : Nat) (C M : GS), i + j = 64 → WS X Y C M i → ∃ M', lp_X8_map_7 j i M = some M' ∧ WS X Y (lp_X0_writeUnits_6 b j i C) M' 64 := by
  have h16 := B.1.2.2.2.2.1
  intro j
  induction j with
  | zero =>
    intro i C M hi h
    have : i = 64 := by omega
    subst this
    exact ⟨M, rfl, h⟩
  | succ j ih =>
    intro i C M hi h
    have hi64 : i < 64 := by omega
    obtain ⟨v, v1, v2, v3, v4, v5, v6, v7⟩ := piece_ok (B.at h.g) hi64
    rw [lp_X8_map_7, lp_X0_writeUnits_6, v6, bnd1_some]
    rcases v7 with ⟨-, w1, w2⟩ | ⟨-, l, hl, w1, w2⟩
    · rw [w1, w2, bnd1_some, if_neg (show ¬ (0 : Int32) ≤ -1 by decide), if_pos (show (-1 : Int32) = -1 from rfl)]
      obtain ⟨M2, z1, z2⟩ := put_ok h (by omega) (c := 46) (m := 46) (s := 46) (by omega) rfl (by decide)
      rw [z1, bnd1_some]
      exact ih (i + 1) _ M2 (by omega) z2
    · have e : (97 : Int32) + nI l = nI (97 + l) := nI_add 97 l
      rw [w1, w2, bnd1_some, if_pos (nI_pos' (by omega)), if_neg (nI_m1 (by omega)), e]
      obtain ⟨M2, z1, z2⟩ := put_ok h (by omega) (c := 97 + l) (m := nI (97 + l)) (s := ((nI (97 + l)).toUInt32 % 65536).toInt32) (by omega) (ch_u16 (by omega)) (ch_u16 (by omega))
      rw [z1, bnd1_some]
      exact ih (i + 1) _ M2 (by omega) z2
/-- promise 22 -/
theorem map_ok (B : BG p F L W w b (Y.2.2.1 5)) (hX : ∀ i, Ch (X.2.2.1 0 i)) (hY : ∀ i, Ch (Y.2.2.1 10 i)) : ∃ (f f' : Nat → Int32) (k : Nat), x_X7_map X b = uS (uA X 0 f) 2 (nI k) ∧ m_X8_map Y = some (nI k, uS (uS (uA Y 10 f') 18 (nI k)) 19 0) ∧ k ≤ 384 ∧ (∀ i, i < k → f i = f' i) ∧ (∀ i, Ch (f i)) ∧ ∀ i, Ch (f' i) := by
  have h0 : WS X Y (uS X 2 0) (uS Y 18 0) 0 := ⟨X.2.2.1 0, Y.2.2.1 10, by rw [uA_self]; rfl, by rw [uA_self]; rfl, fun i hi => by omega, hX, hY⟩
  obtain ⟨M', z1, z2⟩ := lp_map B 64 0 (uS X 2 0) (uS Y 18 0) (by omega) h0
  have e18 := z2.l.2
  obtain ⟨f, f', e1, e2, e3, e4, e5⟩ := z2
  refine ⟨f, f', 64, e1, ?_, by omega, e3, e4, e5⟩
  unfold m_X8_map
  rw [z1, bnd1_some, done_eq, bnd2_some, e18, e2]
end
/-- a line was written: the class's and the reference's -/
theorem Rel.lined {X Z : GS} (R : Rel X) {f f' : Nat → Int32} {k : Nat} (hB : Z.1 = X.1) (hs : ∀ i, ¬ i = 2 → ¬ i = 18 → ¬ i = 19 → Z.2.1 i = X.2.1 i) (ha : ∀ i, ¬ i = 0 → ¬ i = 10 → Z.2.2.1 i = X.2.2.1 i) (h2 : Z.2.1 2 = nI k) (h18 : Z.2.1 18 = nI k) (h0 : Z.2.2.1 0 = f) (h10 : Z.2.2.1 10 = f') (hk : k ≤ 384) (h3 : ∀ i, i < k → f i = f' i) (h4 : ∀ i, Ch (f i)) (h5 : ∀ i, Ch (f' i)) : Rel Z := by
  obtain ⟨r1, r2, r3, r4, r5, r6, r7, r8⟩ := R
  have D := fun i (z : ¬ i = 2 ∧ ¬ i = 18 ∧ ¬ i = 19) => hs i z.1 z.2.1 z.2.2
  have E := fun i (z : ¬ i = 0 ∧ ¬ i = 10) => ha i z.1 z.2
  refine ⟨?_, r2.same (fun j _ => by rw [hB]) (D 0 (by decide)) (D 1 (by decide)) (D 11 (by decide)) (E 7 (by decide)), r3.same (by rw [hB]) (D 8 (by decide)) (D 12 (by decide)) (E 8 (by decide)), ?_, ?_, ?_, ⟨k, hk, h2, h18, fun i hi => by rw [h0, h10]; exact h3 i hi, fun i => by rw [h0]; exact h4 i, fun i => by rw [h10]; exact h5 i⟩, r8.same (D 4 (by decide)) (D 13 (by decide)) (E 4 (by decide)) (E 9 (by decide))⟩
  · rw [hB, E 5 (by decide)]; exact r1
  · rw [D 9 (by decide), D 15 (by decide)]; exact r4
  · rw [D 10 (by decide), D 16 (by decide)]; exact r5
  · rw [D 7 (by decide), D 14 (by decide)]; exact r6
