/-! ===== the pure part, 8: lending; one leaves ===== -/
section
variable {p : Nat → Nat} {F : Nat → Bool} {L : tL} {W : tWt} {w : Nat} {b : BD}
theorem add_nI {b : BD} {n a : Nat} {nm am sz : Int32} (hn : n < 16) (h3 : b.1 3 = nI n) (ha : a < 64) :
    r_X3_add b nm am (nI a) sz = nI n ∧ u_X3_add b nm am (nI a) sz = bA (bA (bA (bS (bA b 1 (up (b.2 1) n nm)) 3 (nI (n + 1))) 2 (up (b.2 2) n am)) 3 (up (b.2 3) n (nI a))) 4 (up (b.2 4) n sz) := by
  have e1 : nI (n + 1) - 1 = nI n := nI_pred n
  have e0 : nI n + 1 = nI (n + 1) := nI_1 n
  have hh : r_X3_has (bS (bA b 1 (up (b.2 1) n nm)) 3 (nI (n + 1))) (nI n) = 1 := has3_t (n := n + 1) (show up b.1 3 (nI (n + 1)) 3 = nI (n + 1) from up_self) (by omega) (by omega)
  have hput : u_X3_put (bS (bA b 1 (up (b.2 1) n nm)) 3 (nI (n + 1))) (nI n) am (nI a) sz = bA (bA (bA (bS (bA b 1 (up (b.2 1) n nm)) 3 (nI (n + 1))) 2 (up (b.2 2) n am)) 3 (up (b.2 3) n (nI a))) 4 (up (b.2 4) n sz) := by
    unfold u_X3_put
    rw [hh, if_neg (by decide), nI_clamp (by omega)]
    rfl
  unfold r_X3_add u_X3_add
  rw [h3, if_neg (nI_pos (show a < 2 ^ 31 by omega)), if_neg (nI_pos (show n < 2 ^ 31 by omega)), if_pos (ltR (k := 16) (x := 16) rfl hn (by omega)), if_neg (nI_pos (show a < 2 ^ 31 by omega)), if_neg (nI_pos (show n < 2 ^ 31 by omega)), if_pos (ltR (k := 16) (x := 16) rfl hn (by omega)), nI_clamp (by omega), e0, e1, hput]
  refine ⟨?_, rfl⟩
  show nI (n + 1) - 1 = nI n
  exact e1
theorem add_prj {b : BD} {n a : Nat} {nm am sz : Int32} (hn : n < 16) (h3 : b.1 3 = nI n) (ha : a < 64) :
    (u_X3_add b nm am (nI a) sz).1 = up b.1 3 (nI (n + 1)) ∧ (u_X3_add b nm am (nI a) sz).2 0 = b.2 0 ∧ (u_X3_add b nm am (nI a) sz).2 1 = up (b.2 1) n nm ∧ (u_X3_add b nm am (nI a) sz).2 2 = up (b.2 2) n am ∧ (u_X3_add b nm am (nI a) sz).2 3 = up (b.2 3) n (nI a) ∧ (u_X3_add b nm am (nI a) sz).2 4 = up (b.2 4) n sz ∧ (u_X3_add b nm am (nI a) sz).2 5 = b.2 5 ∧ (u_X3_add b nm am (nI a) sz).2 6 = b.2 6 := by
  rw [(add_nI (nm := nm) (am := am) (sz := sz) hn h3 ha).2]
  exact ⟨rfl, rfl, rfl, rfl, rfl, rfl, rfl, rfl⟩
theorem take_nI {b : BD} {v need : Nat} (hv : v < 64) (hf : r_X5_find b (nI need) = nI v) :
    r_X5_take b (nI need) = r_X5_cutDown (bA b 0 (up (b.2 0) v 0)) (nI v) (b.2 0 v) (nI need) ∧ u_X5_take b (nI need) = u_X5_cutDown (bA b 0 (up (b.2 0) v 0)) (nI v) (b.2 0 v) (nI need) := by
  unfold r_X5_take u_X5_take
  rw [hf, if_pos (nI_pos' (by omega)), if_pos (nI_pos' (by omega)), setSize_nI hv, sizeAt_nI hv]
  exact ⟨rfl, rfl⟩
/-- to take a piece: what is found is taken away from the free ones, and halved -/
theorem take_ok {X : GS} {n need : Nat} (T : TI p F) (R : RM p F n (X.2.2.1 5)) (RB : RC p F b) (hw : w < 3) (hb : b.1 0 = nI w) (hg : X.2.2.1 5 126 = nI w) (hN : isP need) (hex : ∃ u, u < 64 ∧ F u = true ∧ need ≤ p u) :
    ∃ (v a' : Nat) (p' : Nat → Nat) (F' : Nat → Bool) (c : Nat) (g' : Nat → Int32), v < 64 ∧ F v = true ∧ m_X8_finds X (nI need) = some (nI v) ∧ Cut p (up F v false) v (p v) p' F' a' need ∧
      r_X5_take b (nI need) = nI a' ∧ RC p' F' (u_X5_take b (nI need)) ∧ (u_X5_take b (nI need)).1 1 = b.1 1 + nI c ∧ (∀ i, ¬ i = 1 → (u_X5_take b (nI need)).1 i = b.1 i) ∧ (∀ i, ¬ i = 0 → (u_X5_take b (nI need)).2 i = b.2 i) ∧
      m_X8_halves X (nI v) (nI need) = some (nI a', uA X 5 g') ∧ (∀ u, u < 64 → g' u = nI (p' u)) ∧ g' 127 = X.2.2.1 5 127 + nI c ∧ ∀ i, 64 ≤ i → ¬ i = 127 → g' i = X.2.2.1 5 i := by
  have hN1 := isP_pos hN
  have hN2 := isP_le hN
  obtain ⟨f1, f2⟩ := find_ok T R RB hw hb hg hN1 hN2
  rcases f2 with ⟨h3, h4⟩ | ⟨v, hv, h4, h5, h6⟩
  · obtain ⟨u, hu, h7, h8⟩ := hex
    have := h4 u hu h7
    omega
  · have hpv := T.ple hv
    have hal := T.al hv (by omega)
    obtain ⟨k, hk, hkk⟩ := isP_up hN hal.1 h6
    have T1 : TI p (up F v false) := TI_mono T (fun u h => by
      by_cases e : u = v
      · subst e; rw [up_self] at h; cases h
      · rw [up_ne e] at h; exact h)
    have RB1 : RC p (up F v false) (bA b 0 (up (b.2 0) v 0)) := fun u hu => by
      show up (b.2 0) v 0 u = _
      by_cases e : u = v
      · subst e; rw [up_self, up_self]; rfl
      · rw [up_ne e, up_ne e]; exact RB u hu
    obtain ⟨p', F', a', C, ⟨y, b', c1, c2, c3, c4, c5⟩, g', d1, d2, d3, d4⟩ := cut_ok hN hw k p (up F v false) v (bA b 0 (up (b.2 0) v 0)) X 64 1000 (by omega) (by omega) T1 hv hkk up_self RB1 R.2.2.1 hb hg
    obtain ⟨t1, t2⟩ := take_nI hv h4
    have e1 : b.2 0 v = nI (p v) := RB.t hv h5
    rw [← hkk, ← nI_half (show p v < 2 ^ 31 by omega)] at c1
    have t3 : r_X5_take b (nI need) = nI a' := by
      rw [t1, e1]; unfold r_X5_cutDown; rw [c1]; rfl
    have t4 : u_X5_take b (nI need) = b' := by
      rw [t2, e1]; unfold u_X5_cutDown; rw [c1]; rfl
    rw [← hkk] at C
    refine ⟨v, a', p', F', k, g', hv, h5, by rw [f1, h4], C, t3, by rw [t4]; exact c2, by rw [t4]; exact c3, fun i hi => by rw [t4]; exact c4 i hi, fun i hi => ?_, ?_, d2, d3, d4⟩
    · rw [t4, c5 i hi]; show up b.2 0 _ i = _; rw [up_ne hi]
    · unfold m_X8_halves
      rw [d1]; rfl
/-- to lend -/
theorem lend_ok {X : GS} {nm am : Nat} (B : BG p F L W w b (X.2.2.1 5)) (hL : L.length < 16) (hnm : nm < 100) (h1 : 1 ≤ am) (h2 : am ≤ 64) (hex : ∃ u, u < 64 ∧ F u = true ∧ nd am ≤ p u) :
    ∃ (p' : Nat → Nat) (F' : Nat → Bool) (a' : Nat) (g' : Nat → Int32), BG p' F' (L ++ [(nm, am, a')]) W w (u_X0_lendTo b (nI nm) (nI am)) g' ∧ r_X0_lendTo b (nI nm) (nI am) = nI L.length ∧
      m_X8_lendsTo X (nI nm) (nI am) = some (nI L.length, uA X 5 g') ∧ ∀ m, (∀ u, u < 64 → F u = true → p u < m) → ∀ u, u < 64 → F' u = true → p' u < m := by
  obtain ⟨S, B, G, hv1, hv2⟩ := B
  have hN := isP_nd am
  have R := S.RM G
  obtain ⟨s1, s2, s3, s4, s5, s6, s7, s8⟩ := S
  obtain ⟨b1, b2, b3, b4, b5, b6⟩ := B
  obtain ⟨k1, k2, k3, k4, k5, k6⟩ := G
  obtain ⟨v, a', p', F', c, g', hv, hFv, m1, C, t1, t2, t3, t4, t5, m2, d1, d2, d3⟩ := take_ok s1 R b1 s8 b2 k2 hN hex
  obtain ⟨c1, c2, c3, c4, c5, c6, c7, c8⟩ := C
  have hocc : ∀ u, u < 64 → ((p' u ≠ 0 ∧ F' u = false) ↔ u = a' ∨ ∃ q, q ∈ L ∧ q.2.2 = u) := by
    intro u hu
    rw [c5 u hu]
    constructor
    · rintro (h | ⟨h3, h4, h5⟩)
      · exact Or.inl h
      · rw [up_ne h3] at h5; exact Or.inr ((s2 u hu).mp ⟨h4, h5⟩)
    · rintro (h | h)
      · exact Or.inl h
      · obtain ⟨h4, h5⟩ := (s2 u hu).mpr h
        have : ¬ u = v := fun e => by rw [e, hFv] at h5; cases h5
        exact Or.inr ⟨this, h4, by rw [up_ne this]; exact h5⟩
  have hnew : ∀ q, q ∈ L → ¬ q.2.2 = a' := by
    intro q hq e
    have h64 := (s4 q hq).2.2.2.1
    obtain ⟨h4, h5⟩ := (s2 _ h64).mpr ⟨q, hq, rfl⟩
    rw [e] at h4 h5
    rcases c8 with h | h
    · rw [h, hFv] at h5; cases h5
    · exact h4 h
  have hkeep : ∀ q, q ∈ L → p' q.2.2 = p q.2.2 := by
    intro q hq
    have h64 := (s4 q hq).2.2.2.1
    obtain ⟨h4, h5⟩ := (s2 _ h64).mpr ⟨q, hq, rfl⟩
    exact c6 _ h64 (fun e => by rw [e, hFv] at h5; cases h5) h4
  obtain ⟨ad1, ad2⟩ := add_nI (b := u_X5_take b (nI (nd am))) (n := L.length) (a := a') (nm := nI nm) (am := nI am) (sz := nI (nd am)) hL (by rw [t4 3 (by decide), b3]) c1
  have e1 : r_X0_lendTo b (nI nm) (nI am) = nI L.length := by
    unfold r_X0_lendTo; rw [need_nI h1 h2, t1, ad1]
  have e2 : u_X0_lendTo b (nI nm) (nI am) = u_X3_add (u_X5_take b (nI (nd am))) (nI nm) (nI am) (nI a') (nI (nd am)) := by
    unfold u_X0_lendTo; rw [need_nI h1 h2, t1]
  obtain ⟨j1, j0, jn, jm, js, jz, jw, jv⟩ := add_prj (b := u_X5_take b (nI (nd am))) (n := L.length) (a := a') (nm := nI nm) (am := nI am) (sz := nI (nd am)) hL (by rw [t4 3 (by decide), b3]) c1
  rw [← e2] at j1 j0 jn jm js jz jw jv
  have hlen : (L ++ [(nm, am, a')]).length = L.length + 1 := by simp
  refine ⟨p', F', a', up (up (up (up g' (65 + L.length) (nI nm)) (81 + L.length) (nI am)) (97 + L.length) (nI a')) 64 (nI (L.length + 1)), ⟨⟨c2, fun u hu => ?_, ?_, fun q hq => ?_, by omega, s6, s7, s8⟩, ⟨?_, ?_, ?_, ?_, fun l q hq => ?_, fun l q hq => ?_⟩, ⟨fun u hu => ?_, ?_, ?_, ?_, fun l q hq => ?_, fun l q hq => ?_⟩, ?_, ?_⟩, e1, ?_, fun m hm u hu h => ?_⟩
  · rw [hocc u hu]
    constructor
    · rintro (h | ⟨q, hq, h⟩)
      · exact ⟨(nm, am, a'), by simp, h.symm⟩
      · exact ⟨q, by simp [hq], h⟩
    · rintro ⟨q, hq, h⟩
      rcases List.mem_append.mp hq with h3 | h3
      · exact Or.inr ⟨q, h3, h⟩
      · left
        have : q = (nm, am, a') := by simpa using h3
        rw [← h, this]
  · rw [List.map_append, List.nodup_append]
    refine ⟨s3, by simp, fun x hx y hy => ?_⟩
    obtain ⟨q, hq, rfl⟩ := List.mem_map.mp hx
    have : y = a' := by simpa using hy
    rw [this]
    exact hnew q hq
  · rcases List.mem_append.mp hq with h3 | h3
    · rw [hkeep q h3]; exact s4 q h3
    · have : q = (nm, am, a') := by simpa using h3
      rw [this]
      exact ⟨hnm, h1, h2, c1, c3⟩
  · intro u hu
    rw [j0]; exact t2 u hu
  · rw [j1, up_ne (by decide), t4 0 (by decide), b2]
  · rw [j1, up_self, hlen]
  · rw [j1, up_ne (by decide), t4 4 (by decide), b4]
  · rw [jn, jm, js, jz, t5 1 (by decide), t5 2 (by decide), t5 3 (by decide), t5 4 (by decide)]
    rcases get_app hq with ⟨h3, h4⟩ | ⟨rfl, rfl⟩
    · rw [up_ne (by omega), up_ne (by omega), up_ne (by omega), up_ne (by omega)]; exact b5 l q h3
    · rw [up_self, up_self, up_self, up_self]
      exact ⟨rfl, rfl, rfl, rfl⟩
  · rw [jw, jv, t5 5 (by decide), t5 6 (by decide)]
    exact b6 l q hq
  · rw [up_ne (by omega), up_ne (by omega), up_ne (by omega), up_ne (by omega)]; exact d1 u hu
  · rw [up_ne (by omega), up_ne (by omega), up_ne (by omega), up_ne (by omega), d3 126 (by omega) (by omega)]; exact k2
  · rw [up_self, hlen]
  · rw [up_ne (by omega), up_ne (by omega), up_ne (by omega), up_ne (by omega), d3 113 (by omega) (by omega)]; exact k4
  · rcases get_app hq with ⟨h3, h4⟩ | ⟨rfl, rfl⟩
    · have := k5 l q h3
      refine ⟨?_, ?_, ?_⟩
      · rw [up_ne (by omega), up_ne (by omega), up_ne (by omega), up_ne (by omega), d3 _ (by omega) (by omega)]; exact this.1
      · rw [up_ne (by omega), up_ne (by omega), up_ne (by omega), up_ne (by omega), d3 _ (by omega) (by omega)]; exact this.2.1
      · rw [up_ne (by omega), up_ne (by omega), up_ne (by omega), up_ne (by omega), d3 _ (by omega) (by omega)]; exact this.2.2
    · refine ⟨?_, ?_, ?_⟩
      · rw [up_ne (by omega), up_ne (by omega), up_ne (by omega), up_self]
      · rw [up_ne (by omega), up_ne (by omega), up_self]
      · rw [up_ne (by omega), up_self]
  · have hl := get_lt hq
    have := k6 l q hq
    refine ⟨?_, ?_⟩
    · rw [up_ne (by omega), up_ne (by omega), up_ne (by omega), up_ne (by omega), d3 _ (by omega) (by omega)]; exact this.1
    · rw [up_ne (by omega), up_ne (by omega), up_ne (by omega), up_ne (by omega), d3 _ (by omega) (by omega)]; exact this.2
  · rw [j1, up_ne (by decide), t3, up_ne (by omega), up_ne (by omega), up_ne (by omega), up_ne (by omega), d2, hv1]
  · rw [j1, up_ne (by decide), t4 2 (by decide), up_ne (by omega), up_ne (by omega), up_ne (by omega), up_ne (by omega), d3 128 (by omega) (by omega), hv2]
  · have a65 : (65 : Int32) + nI L.length = nI (65 + L.length) := nI_add 65 L.length
    have a81 : (81 : Int32) + nI L.length = nI (81 + L.length) := nI_add 81 L.length
    have a97 : (97 : Int32) + nI L.length = nI (97 + L.length) := nI_add 97 L.length
    unfold m_X8_lendsTo
    rw [mneed_nI h1 h2, bnd1_some, m1, bnd1_some, bnd1_some, m2, bnd2_some, k3]
    simp only [a65, a81, a97, if_pos (inR_nI (show 65 + L.length < 129 by omega) (show 129 < 2 ^ 31 by omega)), if_pos (inR_nI (show 81 + L.length < 129 by omega) (show 129 < 2 ^ 31 by omega)), if_pos (inR_nI (show 97 + L.length < 129 by omega) (show 129 < 2 ^ 31 by omega)), nI_clamp (show 65 + L.length < 2 ^ 31 by omega), nI_clamp (show 81 + L.length < 2 ^ 31 by omega), nI_clamp (show 97 + L.length < 2 ^ 31 by omega), uA_uA, uA_at]
    rw [up_ne (show ¬ 64 = 97 + L.length by omega), up_ne (show ¬ 64 = 81 + L.length by omega), up_ne (show ¬ 64 = 65 + L.length by omega), d3 64 (by omega) (by omega), k3, nI_1]
  · rcases c7 u hu h with ⟨h3, h4⟩ | h3
    · rw [h4]
      refine hm u hu ?_
      by_cases e : u = v
      · subst e; rw [up_self] at h3; cases h3
      · rw [up_ne e] at h3; exact h3
    · have := hm v hv hFv
      omega
end
