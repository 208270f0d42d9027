/-! ===== the pure part, 9: one who waits leaves; a loan is given back ===== -/
theorem lp_rem6 : ∀ (j i n : Nat) (b : BD), b.1 4 = nI (n + 1) → n + 1 ≤ 6 → i + j = 5 → (lp_X6_remove_11 j i b).1 = b.1 ∧ (∀ a, ¬ a = 5 → ¬ a = 6 → (lp_X6_remove_11 j i b).2 a = b.2 a) ∧ ∀ a, (a = 5 ∨ a = 6) → ∀ t, (lp_X6_remove_11 j i b).2 a t = if i ≤ t ∧ t < n then b.2 a (t + 1) else b.2 a t := by
  intro j
  induction j with
  | zero =>
    intro i n b hb hn hi
    refine ⟨rfl, fun _ _ _ => rfl, fun a ha t => ?_⟩
    rw [if_neg (by omega)]
    rfl
  | succ j ih =>
    intro i n b hb hn hi
    rw [lp_X6_remove_11, hb, nI_pred]
    by_cases e : n ≤ i
    · rw [if_pos (nI_le e (by omega))]
      refine ⟨rfl, fun _ _ _ => rfl, fun a ha t => ?_⟩
      rw [if_neg (by omega)]
    · rw [if_neg (nI_ge (by omega) (by omega))]
      obtain ⟨h1, h2, h3⟩ := ih (i + 1) n (bA (bA b 5 (up (b.2 5) i (b.2 5 (i + 1)))) 6 (up (b.2 6) i (b.2 6 (i + 1)))) hb hn (by omega)
      refine ⟨h1, fun a ha1 ha2 => ?_, fun a ha t => ?_⟩
      · rw [h2 a ha1 ha2]; show up (up b.2 5 _) 6 _ a = _; rw [up_ne ha2, up_ne ha1]
      · rw [h3 a ha t]
        have e1 : (bA (bA b 5 (up (b.2 5) i (b.2 5 (i + 1)))) 6 (up (b.2 6) i (b.2 6 (i + 1)))).2 a = up (b.2 a) i (b.2 a (i + 1)) := by
          show up (up b.2 5 _) 6 _ a = _
          rcases ha with rfl | rfl
          · rw [up_ne (by decide), up_self]
          · rw [up_self]
        rw [e1]
        by_cases c1 : i + 1 ≤ t ∧ t < n
        · rw [if_pos c1, if_pos (by omega), up_ne (by omega)]
        · rw [if_neg c1]
          by_cases c2 : t = i
          · subst c2; rw [up_self, if_pos (by omega)]
          · rw [up_ne c2, if_neg (by omega)]
theorem lp_leaves : ∀ (d fuel i m : Nat) (X : GS), i + d = m → m ≤ 5 → d < fuel → X.2.2.1 5 113 = nI m → ∃ g' : Nat → Int32, lp_X8_leaves_13 fuel (nI i) X = some (nI m, uA X 5 g') ∧ ∀ x, g' x = if (114 + i ≤ x ∧ x < 114 + m) ∨ (120 + i ≤ x ∧ x < 120 + m) then X.2.2.1 5 (x + 1) else X.2.2.1 5 x := by
  intro d
  induction d with
  | zero =>
    intro fuel i m X hi hm hf hn
    obtain ⟨fuel, rfl⟩ : ∃ k, fuel = k + 1 := ⟨fuel - 1, by omega⟩
    refine ⟨X.2.2.1 5, ?_, fun x => by rw [if_neg (by omega)]⟩
    rw [lp_X8_leaves_13, hn, if_pos (nI_le (by omega) (by omega))]
    have : i = m := by omega
    subst this
    simp only [uA, up_eta]
  | succ d ih =>
    intro fuel i m X hi hm hf hn
    obtain ⟨fuel, rfl⟩ : ∃ k, fuel = k + 1 := ⟨fuel - 1, by omega⟩
    have a1 : (114 : Int32) + nI i = nI (114 + i) := nI_add 114 i
    have a2 : (120 : Int32) + nI i = nI (120 + i) := nI_add 120 i
    have a3 : nI (114 + i) + 1 = nI (114 + i + 1) := nI_1 _
    have a4 : nI (120 + i) + 1 = nI (120 + i + 1) := nI_1 _
    have a5 : nI i + 1 = nI (i + 1) := nI_1 _
    obtain ⟨g', h1, h2⟩ := ih fuel (i + 1) m (uA X 5 (up (up (X.2.2.1 5) (114 + i) (X.2.2.1 5 (114 + i + 1))) (120 + i) (X.2.2.1 5 (120 + i + 1)))) (by omega) hm (by omega) (by rw [uA_at, up_ne (by omega), up_ne (by omega)]; exact hn)
    refine ⟨g', ?_, fun x => ?_⟩
    · rw [lp_X8_leaves_13, hn, if_neg (nI_ge (by omega) (by omega))]
      simp only [a1, a2, a3, a4, a5, if_pos (inR_nI (show 114 + i + 1 < 129 by omega) (show 129 < 2 ^ 31 by omega)), if_pos (inR_nI (show 114 + i < 129 by omega) (show 129 < 2 ^ 31 by omega)), if_pos (inR_nI (show 120 + i + 1 < 129 by omega) (show 129 < 2 ^ 31 by omega)), if_pos (inR_nI (show 120 + i < 129 by omega) (show 129 < 2 ^ 31 by omega)), nI_clamp (show 114 + i < 2 ^ 31 by omega), nI_clamp (show 114 + i + 1 < 2 ^ 31 by omega), nI_clamp (show 120 + i < 2 ^ 31 by omega), nI_clamp (show 120 + i + 1 < 2 ^ 31 by omega), uA_uA]
      rw [up_ne (show ¬ 120 + i + 1 = 114 + i by omega), h1, uA_uA]
    · rw [h2 x, uA_at]
      by_cases c1 : (114 + (i + 1) ≤ x ∧ x < 114 + m) ∨ (120 + (i + 1) ≤ x ∧ x < 120 + m)
      · rw [if_pos c1, if_pos (by omega), up_ne (by omega), up_ne (by omega)]
      · rw [if_neg c1]
        by_cases c2 : x = 120 + i
        · subst c2; rw [up_self, if_pos (by omega)]
        · rw [up_ne c2]
          by_cases c3 : x = 114 + i
          · subst c3; rw [up_self, if_pos (by omega)]
          · rw [up_ne c3, if_neg (by omega)]
theorem leaves_ok {n k : Nat} {X : GS} (hn : X.2.2.1 5 113 = nI (n + 1)) (h6 : n + 1 ≤ 6) (hk : k ≤ n) : ∃ g' : Nat → Int32, m_X8_leaves X (nI k) = some (uA X 5 g') ∧ g' 113 = nI n ∧ (∀ t, t < n → g' (114 + t) = (if k ≤ t then X.2.2.1 5 (114 + (t + 1)) else X.2.2.1 5 (114 + t)) ∧ g' (120 + t) = (if k ≤ t then X.2.2.1 5 (120 + (t + 1)) else X.2.2.1 5 (120 + t))) ∧ ∀ x, x < 113 ∨ 126 ≤ x → g' x = X.2.2.1 5 x := by
  obtain ⟨g', h1, h2⟩ := lp_leaves (n - k) 1000 k n (uA X 5 (up (X.2.2.1 5) 113 (nI n))) (by omega) (by omega) (by omega) (by rw [uA_at, up_self])
  have g113 : g' 113 = nI n := by rw [h2, if_neg (by omega), uA_at, up_self]
  have a1 : (114 : Int32) + nI n = nI (114 + n) := nI_add 114 n
  have a2 : (120 : Int32) + nI n = nI (120 + n) := nI_add 120 n
  refine ⟨up (up g' (114 + n) 0) (120 + n) 0, ?_, ?_, fun t ht => ⟨?_, ?_⟩, fun x hx => ?_⟩
  · unfold m_X8_leaves
    rw [hn, nI_pred, h1, bnd2_some]
    simp only [uA_at, g113, a1, if_pos (inR_nI (show 114 + n < 129 by omega) (show 129 < 2 ^ 31 by omega)), nI_clamp (show 114 + n < 2 ^ 31 by omega)]
    rw [up_ne (show ¬ 113 = 114 + n by omega), g113]
    simp only [a2, if_pos (inR_nI (show 120 + n < 129 by omega) (show 129 < 2 ^ 31 by omega)), nI_clamp (show 120 + n < 2 ^ 31 by omega), uA_uA]
  · rw [up_ne (by omega), up_ne (by omega), g113]
  · rw [up_ne (by omega), up_ne (by omega), h2, uA_at]
    by_cases c : k ≤ t
    · rw [if_pos (by omega), if_pos c, up_ne (by omega)]; rfl
    · rw [if_neg (by omega), if_neg c, up_ne (by omega)]
  · rw [up_ne (by omega), up_ne (by omega), h2, uA_at]
    by_cases c : k ≤ t
    · rw [if_pos (by omega), if_pos c, up_ne (by omega)]; rfl
    · rw [if_neg (by omega), if_neg c, up_ne (by omega)]
  · rw [up_ne (by omega), up_ne (by omega), h2, if_neg (by omega), uA_at, up_ne (by omega)]
section
variable {p : Nat → Nat} {F : Nat → Bool} {L : tL} {W : tWt} {w : Nat} {b : BD}
/-- one who waits leaves -/
theorem rem_ok {X : GS} {k : Nat} (B : BG p F L W w b (X.2.2.1 5)) (hk : k < W.length) : ∃ g' : Nat → Int32, BG p F L (W.eraseIdx k) w (u_X6_remove b (nI k)) g' ∧ m_X8_leaves X (nI k) = some (uA X 5 g') := by
  obtain ⟨S, B, G, hv1, hv2⟩ := B
  obtain ⟨s1, s2, s3, s4, s5, s6, s7, s8⟩ := S
  obtain ⟨b1, b2, b3, b4, b5, b6⟩ := B
  obtain ⟨k1, k2, k3, k4, k5, k6⟩ := G
  obtain ⟨n, hn⟩ : ∃ n, W.length = n + 1 := ⟨W.length - 1, by omega⟩
  rw [hn] at b4 k4 s7 hk
  obtain ⟨g', m1, m2, m3, m4⟩ := leaves_ok (X := X) (k := k) k4 s7 (by omega)
  have hlen : (W.eraseIdx k).length = n := by rw [List.length_eraseIdx]; rw [if_pos (by omega)]; omega
  obtain ⟨q1, q2, q3⟩ := lp_rem6 (5 - k) k n b b4 s7 (by omega)
  have hu : u_X6_remove b (nI k) = bS (lp_X6_remove_11 (5 - k) k b) 4 (nI n) := by
    unfold u_X6_remove
    rw [has6_t b4 s7 hk, if_neg (by decide), nI_clamp (by omega), q1, b4, nI_pred]
  have u1 : (u_X6_remove b (nI k)).1 = up b.1 4 (nI n) := by rw [hu]; show up (lp_X6_remove_11 (5 - k) k b).1 4 _ = _; rw [q1]
  have u2 : (u_X6_remove b (nI k)).2 = (lp_X6_remove_11 (5 - k) k b).2 := by rw [hu]; rfl
  refine ⟨g', ⟨⟨s1, s2, s3, s4, s5, fun q hq => s6 q (List.mem_of_mem_eraseIdx hq), by omega, s8⟩, ⟨fun u hu => ?_, ?_, ?_, ?_, fun l q hq => ?_, fun t q hq => ?_⟩, ⟨fun u hu => ?_, ?_, ?_, ?_, fun l q hq => ?_, fun t q hq => ?_⟩, ?_, ?_⟩, m1⟩
  · rw [u2, q2 0 (by decide) (by decide)]; exact b1 u hu
  · rw [u1, up_ne (by decide), b2]
  · rw [u1, up_ne (by decide), b3]
  · rw [u1, up_self, hlen]
  · rw [u2, q2 1 (by decide) (by decide), q2 2 (by decide) (by decide), q2 3 (by decide) (by decide), q2 4 (by decide) (by decide)]; exact b5 l q hq
  · have ht := get_lt hq
    rw [hlen] at ht
    rw [u2, q3 5 (Or.inl rfl), q3 6 (Or.inr rfl)]
    rcases get_er hq with ⟨h1, h2⟩ | ⟨h1, h2⟩
    · rw [if_neg (by omega), if_neg (by omega)]; exact b6 t q h2
    · rw [if_pos ⟨h1, ht⟩, if_pos ⟨h1, ht⟩]; exact b6 _ q h2
  · rw [m4 u (by omega)]; exact k1 u hu
  · rw [m4 126 (by omega)]; exact k2
  · rw [m4 64 (by omega)]; exact k3
  · rw [m2, hlen]
  · have hl := get_lt hq
    rw [m4 (65 + l) (by omega), m4 (81 + l) (by omega), m4 (97 + l) (by omega)]; exact k5 l q hq
  · have ht := get_lt hq
    rw [hlen] at ht
    rw [(m3 t ht).1, (m3 t ht).2]
    rcases get_er hq with ⟨h1, h2⟩ | ⟨h1, h2⟩
    · rw [if_neg (by omega), if_neg (by omega)]; exact k6 t q h2
    · rw [if_pos h1, if_pos h1]; exact k6 _ q h2
  · rw [u1, up_ne (by decide), hv1, m4 127 (by omega)]
  · rw [u1, up_ne (by decide), hv2, m4 128 (by omega)]
theorem serve_step (w : Nat) : ∀ (j i s fuel : Nat) (p : Nat → Nat) (F : Nat → Bool) (L : tL) (W : tWt) (b : BD) (X : GS), BG p F L W w b (X.2.2.1 5) → s ≤ i → i + j ≤ 100 → (i - s) + j = W.length → j < fuel →
    (∀ t q, t < i - s → W[t]? = some q → L.length = 16 ∨ ∀ u, u < 64 → F u = true → p u < nd q.2) →
    ∃ (s' : Nat) (y : Int32) (p' : Nat → Nat) (F' : Nat → Bool) (L' : tL) (W' : tWt) (g' : Nat → Int32), s' ≤ i + j ∧ (lp_X0_serveWaiting_12 j i (nI s) b).1 = nI s' ∧ lp_X8_serves_4 fuel (nI s) (nI (i - s)) X = some (nI s', y, uA X 5 g') ∧ BG p' F' L' W' w (lp_X0_serveWaiting_12 j i (nI s) b).2 g' ∧ Sv p' F' L' W' := by
  intro j
  induction j with
  | zero =>
    intro i s fuel p F L W b X B h1 h100 h2 h3 hp
    obtain ⟨fuel, rfl⟩ : ∃ k, fuel = k + 1 := ⟨fuel - 1, by omega⟩
    refine ⟨s, nI (i - s), p, F, L, W, X.2.2.1 5, by omega, rfl, ?_, B, fun q hq => ?_⟩
    · rw [lp_X8_serves_4, B.2.2.1.2.2.2.1, if_pos (nI_le (by omega) (by omega))]
      simp only [uA, up_eta]
    · obtain ⟨t, ht⟩ := mem_get hq
      exact hp t q (by have := get_lt ht; omega) ht
  | succ j ih =>
    intro i s fuel p F L W b X B h1 h100 h2 h3 hp
    obtain ⟨fuel, rfl⟩ : ∃ k, fuel = k + 1 := ⟨fuel - 1, by omega⟩
    have hW6 := B.1.2.2.2.2.2.2.1
    obtain ⟨q, hq⟩ := get_ex (L := W) (l := i - s) (by omega)
    have hqm := B.1.2.2.2.2.2.1 q (get_mem hq)
    obtain ⟨w1, w2⟩ := wait_at B.1 B.2.1 hq
    have e1 : nI i - nI s = nI (i - s) := nI_sub h1
    have a1 : (114 : Int32) + nI (i - s) = nI (114 + (i - s)) := nI_add 114 _
    have a2 : (120 : Int32) + nI (i - s) = nI (120 + (i - s)) := nI_add 120 _
    have gq := B.2.2.1.2.2.2.2.2 _ q hq
    rw [lp_X0_serveWaiting_12, lp_X8_serves_4, B.2.2.1.2.2.2.1, if_neg (nI_ge (by omega) (by omega)), e1, w1, w2]
    simp only [a1, a2, if_pos (inR_nI (show 114 + (i - s) < 129 by omega) (show 129 < 2 ^ 31 by omega)), if_pos (inR_nI (show 120 + (i - s) < 129 by omega) (show 129 < 2 ^ 31 by omega)), nI_clamp (show 114 + (i - s) < 2 ^ 31 by omega), nI_clamp (show 120 + (i - s) < 2 ^ 31 by omega), gq.1, gq.2]
    rcases canLend_ok B hqm.2.1 hqm.2.2 with ⟨⟨c1, c2⟩, c3, c4⟩ | ⟨c1, c3, c4⟩
    · rw [c3, if_neg (by decide), c4, bnd1_some, if_neg (by decide)]
      obtain ⟨p1, F1, a1', g1, B1, r1, m1, bd⟩ := lend_ok B c1 hqm.1 hqm.2.1 hqm.2.2 c2
      rw [m1, bnd2_some]
      have B1' : BG p1 F1 (L ++ [(q.1, q.2, a1')]) W w (u_X0_lendTo b (nI q.1) (nI q.2)) ((uA X 5 g1).2.2.1 5) := by rw [uA_at]; exact B1
      obtain ⟨g2, B2, m2⟩ := rem_ok (k := i - s) B1' (by omega)
      rw [m2, bnd1_some, nI_1, uA_uA]
      have B2' : BG p1 F1 (L ++ [(q.1, q.2, a1')]) (W.eraseIdx (i - s)) w (u_X6_remove (u_X0_lendTo b (nI q.1) (nI q.2)) (nI (i - s))) ((uA X 5 g2).2.2.1 5) := by rw [uA_at]; exact B2
      have hlen : (W.eraseIdx (i - s)).length = W.length - 1 := by rw [List.length_eraseIdx, if_pos (by omega)]
      obtain ⟨s', y, p', F', L', W', g', z1, z2, z3, z4, z5⟩ := ih (i + 1) (s + 1) fuel p1 F1 _ _ _ _ B2' (by omega) (by omega) (by omega) (by omega) (fun t r ht hr => by
        right
        rw [List.getElem?_eraseIdx, if_pos (by omega)] at hr
        rcases hp t r (by omega) hr with h | h
        · omega
        · exact bd _ h)
      rw [show i + 1 - (s + 1) = i - s by omega, uA_uA] at z3
      exact ⟨s', y, p', F', L', W', g', by omega, z2, z3, z4, z5⟩
    · rw [c3, if_pos rfl, c4, bnd1_some, if_pos rfl, nI_1]
      obtain ⟨s', y, p', F', L', W', g', z1, z2, z3, z4, z5⟩ := ih (i + 1) s fuel p F L W b X B (by omega) (by omega) (by omega) (by omega) (fun t r ht hr => by
        by_cases e : t = i - s
        · subst e
          rw [hq] at hr
          obtain rfl := Option.some.inj hr
          exact c1
        · exact hp t r (by omega) hr)
      rw [show i + 1 - s = i - s + 1 by omega] at z3
      exact ⟨s', y, p', F', L', W', g', by omega, z2, z3, z4, z5⟩
/-- those who wait are gone through -/
theorem serve_ok {X : GS} (B : BG p F L W w b (X.2.2.1 5)) : ∃ (s' : Nat) (g' : Nat → Int32), s' ≤ 6 ∧ r_X0_serveWaiting b = nI s' ∧ m_X8_serves X = some (nI s', uA X 5 g') ∧ ∃ (p' : Nat → Nat) (F' : Nat → Bool) (L' : tL) (W' : tWt), BG p' F' L' W' w (u_X0_serveWaiting b) g' ∧ Sv p' F' L' W' := by
  have hW6 := B.1.2.2.2.2.2.2.1
  obtain ⟨s', y, p', F', L', W', g', z1, z2, z3, z4, z5⟩ := serve_step w W.length 0 0 1000 p F L W b X B (by omega) (by omega) (by omega) (by omega) (fun t q ht => by omega)
  unfold r_X0_serveWaiting u_X0_serveWaiting m_X8_serves
  rw [B.2.1.2.2.2.1, nI_clamp (by omega)]
  refine ⟨s', g', by omega, z2, ?_, p', F', L', W', z4, z5⟩
  have z3' : lp_X8_serves_4 1000 0 0 X = some (nI s', y, uA X 5 g') := z3
  rw [z3']
  rfl
end
