/-! ===== the pure part, 12: ask, give, giveAll, way, forget ===== -/
section
variable {p : Nat → Nat} {F : Nat → Bool} {L : tL} {W : tWt} {w : Nat} {b : BD} {g : Nat → Int32}
/-- a name begins to wait -/
theorem wait_ok {X : GS} {nm am : Nat} (B : BG p F L W w b (X.2.2.1 5)) (hW : W.length < 6) (hnm : nm < 100) (h1 : 1 ≤ am) (h2 : am ≤ 64) :
    BG p F L (W ++ [(nm, am)]) w (u_X6_add b (nI nm) (nI am)) (up (up (up (X.2.2.1 5) (114 + W.length) (nI nm)) (120 + W.length) (nI am)) 113 (nI (W.length + 1))) := by
  obtain ⟨S, B, G, hv1, hv2⟩ := B
  obtain ⟨s1, s2, s3, s4, s5, s6, s7, s8⟩ := S
  obtain ⟨b1, b2, b3, b4, b5, b6⟩ := B
  obtain ⟨k1, k2, k3, k4, k5, k6⟩ := G
  have hlen : (W ++ [(nm, am)]).length = W.length + 1 := by simp
  have hu : u_X6_add b (nI nm) (nI am) = bS (bA (bA b 5 (up (b.2 5) W.length (nI nm))) 6 (up (b.2 6) W.length (nI am))) 4 (nI (W.length + 1)) := by
    unfold u_X6_add
    rw [b4, if_neg (nI_pos (by omega)), if_neg (geL (k := 6) (x := 6) rfl hW (by omega)), nI_clamp (by omega), nI_1]
  have u1 : (u_X6_add b (nI nm) (nI am)).1 = up b.1 4 (nI (W.length + 1)) := by rw [hu]; rfl
  have u2 : (u_X6_add b (nI nm) (nI am)).2 = up (up b.2 5 (up (b.2 5) W.length (nI nm))) 6 (up (b.2 6) W.length (nI am)) := by rw [hu]; rfl
  refine ⟨⟨s1, s2, s3, s4, s5, fun q hq => ?_, by omega, s8⟩, ⟨fun u hu => ?_, ?_, ?_, ?_, fun l q hq => ?_, fun t q hq => ?_⟩, ⟨fun u hu => ?_, ?_, ?_, ?_, fun l q hq => ?_, fun t q hq => ?_⟩, ?_, ?_⟩
  · rcases List.mem_append.mp hq with h3 | h3
    · exact s6 q h3
    · have : q = (nm, am) := by simpa using h3
      rw [this]; exact ⟨hnm, h1, h2⟩
  · rw [u2, up_ne (by decide), up_ne (by decide)]; exact b1 u hu
  · rw [u1, up_ne (by decide), b2]
  · rw [u1, up_ne (by decide), b3]
  · rw [u1, up_self, hlen]
  · rw [u2, up_ne (by decide), up_ne (by decide), up_ne (by decide), up_ne (by decide), up_ne (by decide), up_ne (by decide), up_ne (by decide), up_ne (by decide)]; exact b5 l q hq
  · rw [u2, up_ne (show ¬ 5 = 6 by decide), up_self, up_self]
    rcases get_app hq with ⟨h3, h4⟩ | ⟨rfl, rfl⟩
    · rw [up_ne (by omega), up_ne (by omega)]; exact b6 t q h3
    · rw [up_self, up_self]; exact ⟨rfl, rfl⟩
  · rw [up_ne (by omega), up_ne (by omega), up_ne (by omega)]; exact k1 u hu
  · rw [up_ne (by omega), up_ne (by omega), up_ne (by omega)]; exact k2
  · rw [up_ne (by omega), up_ne (by omega), up_ne (by omega)]; exact k3
  · rw [up_self, hlen]
  · have hl := get_lt hq
    refine ⟨?_, ?_, ?_⟩
    · rw [up_ne (by omega), up_ne (by omega), up_ne (by omega)]; exact (k5 l q hq).1
    · rw [up_ne (by omega), up_ne (by omega), up_ne (by omega)]; exact (k5 l q hq).2.1
    · rw [up_ne (by omega), up_ne (by omega), up_ne (by omega)]; exact (k5 l q hq).2.2
  · rcases get_app hq with ⟨h3, h4⟩ | ⟨rfl, rfl⟩
    · refine ⟨?_, ?_⟩
      · rw [up_ne (by omega), up_ne (by omega), up_ne (by omega)]; exact (k6 t q h3).1
      · rw [up_ne (by omega), up_ne (by omega), up_ne (by omega)]; exact (k6 t q h3).2
    · refine ⟨?_, ?_⟩
      · rw [up_ne (by omega), up_ne (by omega), up_self]
      · rw [up_ne (by omega), up_self]
  · rw [u1, up_ne (by decide), hv1, up_ne (by omega), up_ne (by omega), up_ne (by omega)]
  · rw [u1, up_ne (by decide), hv2, up_ne (by omega), up_ne (by omega), up_ne (by omega)]
/-- promise 3 -/
theorem out_ask (B : Bd b g) (x y : Int32) : OUT g (u_X0_lendOrQueue b x y) (r_X7_judgeAsk b x y) (r_X0_lendOrQueue b x y) (fun X => x_X7_judgeAsk X b x y) (fun Y => m_X8_asks Y x y) 1 1 2 := by
  obtain ⟨p, F, L, W, w, B, hS⟩ := B
  unfold r_X7_judgeAsk x_X7_judgeAsk m_X8_asks r_X0_lendOrQueue u_X0_lendOrQueue
  rcases name_cases x with ⟨⟨k, hk, rfl⟩, h1, h2⟩ | ⟨h1, h2⟩
  · rcases amount_cases y with ⟨⟨a, ha1, ha2, rfl⟩, h3, h4⟩ | ⟨h3, h4⟩
    · simp only [h1, h2, h3, h4, bnd1_some, if_neg (show ¬ (1 : Int32) = 0 by decide)]
      have h16 := B.1.2.2.2.2.1
      have h6 := B.1.2.2.2.2.2.2.1
      have e0 := canLend_ok (X := uA gs0 5 g) (B.at uA_at) ha1 ha2
      rcases e0 with ⟨⟨c1, c2⟩, c3, -⟩ | ⟨c1, c3, -⟩
      · -- lent
        rw [c3]
        simp only [if_neg (show ¬ (1 : Int32) = 0 by decide)]
        refine Or.inl ⟨rfl, fun X => rfl, fun Y hY => ?_⟩
        rcases canLend_ok (B.at hY) ha1 ha2 with ⟨d1, d2, d3⟩ | ⟨d1, d2, d3⟩
        · obtain ⟨p', F', a', g', B', l1, l2, l3⟩ := lend_ok (B.at hY) c1 hk ha1 ha2 c2
          refine ⟨g', ⟨p', F', _, W, w, B', hS.more c1 l3⟩, ?_⟩
          have hq : (L ++ [(k, a, a')])[L.length]? = some (k, a, a') := by simp
          have e1 := (loan_at B'.1 B'.2.1 hq).2.2.1
          have e2 := (B'.2.2.1.2.2.2.2.1 _ _ hq).2.2
          have a97 : (97 : Int32) + nI L.length = nI (97 + L.length) := nI_add 97 _
          dsimp only
          rw [d3, bnd1_some, if_neg (by decide), l2, bnd2_some]
          simp only [a97, if_pos (inR_nI (show 97 + L.length < 129 by omega) (show 129 < 2 ^ 31 by omega)), nI_clamp (show 97 + L.length < 2 ^ 31 by omega), uA_at, e2]
          rw [done_eq, bnd2_some, l1, e1]
        · rw [c3] at d2; exact absurd d2 (by decide)
      · rw [c3]
        simp only [if_true]
        rw [B.2.1.2.2.2.1]
        by_cases e : W.length = 6
        · rw [if_neg (nltR (k := 6) (x := 6) rfl (by omega) (by omega))]
          refine Or.inr (Or.inr (Or.inr ⟨rfl, 3, nI W.length, by decide, fun X => ?_, fun Y hY => ⟨g, ?_⟩⟩))
          · simp only [if_neg (nltR (k := 6) (x := 6) rfl (show 6 ≤ W.length by omega) (by omega))]; rfl
          · rcases canLend_ok (B.at hY) ha1 ha2 with ⟨d1, d2, d3⟩ | ⟨d1, d2, d3⟩
            · rw [c3] at d2; exact absurd d2 (by decide)
            · dsimp only
              rw [d3, bnd1_some, if_pos rfl, if_pos (by rw [hY, B.2.2.1.2.2.2.1, e]; rfl), refused_eq, bnd2_some, ← hY, uA_self, e]; rfl
        · rw [if_pos (ltR (k := 6) (x := 6) rfl (by omega) (by omega))]
          refine Or.inl ⟨rfl, fun X => ?_, fun Y hY => ?_⟩
          · simp only [if_pos (ltR (k := 6) (x := 6) rfl (show W.length < 6 by omega) (by omega))]
          · rcases canLend_ok (B.at hY) ha1 ha2 with ⟨d1, d2, d3⟩ | ⟨d1, d2, d3⟩
            · rw [c3] at d2; exact absurd d2 (by decide)
            · have B' := wait_ok (B.at hY) (by omega) hk ha1 ha2
              refine ⟨_, ⟨p, F, L, _, w, B', fun q hq => ?_⟩, ?_⟩
              · rcases List.mem_append.mp hq with h3 | h3
                · exact hS q h3
                · have : q = (k, a) := by simpa using h3
                  rw [this]; exact c1
              · have a1 : (114 : Int32) + nI W.length = nI (114 + W.length) := nI_add 114 _
                have a2 : (120 : Int32) + nI W.length = nI (120 + W.length) := nI_add 120 _
                have hg : Y.2.2.1 5 113 = nI W.length := by rw [hY]; exact B.2.2.1.2.2.2.1
                dsimp only
                rw [d3, bnd1_some, if_pos rfl]
                simp only [hg, if_neg (neL (k := 6) (x := 6) rfl (show W.length < 2 ^ 31 by omega) (by omega) e), a1, a2, if_pos (inR_nI (show 114 + W.length < 129 by omega) (show 129 < 2 ^ 31 by omega)), if_pos (inR_nI (show 120 + W.length < 129 by omega) (show 129 < 2 ^ 31 by omega)), nI_clamp (show 114 + W.length < 2 ^ 31 by omega), nI_clamp (show 120 + W.length < 2 ^ 31 by omega), uA_uA]
                rw [done_eq, bnd2_some, up_ne (show ¬ 113 = 120 + W.length by omega), up_ne (show ¬ 113 = 114 + W.length by omega), hg, nI_1]
    · simp only [h1, h2, h3, h4, bnd1_some, if_neg (show ¬ (1 : Int32) = 0 by decide), if_true]
      exact Or.inr (Or.inr (Or.inl ⟨rfl, fun _ => rfl, fun Y _ => rfl⟩))
  · simp only [h1, h2, bnd1_some, if_true]
    exact Or.inr (Or.inr (Or.inl ⟨rfl, fun _ => rfl, fun Y _ => rfl⟩))
/-- promise 4 -/
theorem out_give (B : Bd b g) (x : Int32) : OUT g (u_X0_giveBack b x) (r_X7_judgeGive b x) (r_X0_giveBack b x) (fun X => X) (fun Y => m_X8_gives Y x) 1 2 2 := by
  obtain ⟨p, F, L, W, w, B, hS⟩ := B
  have h16 := B.1.2.2.2.2.1
  unfold r_X7_judgeGive
  rcases loan_cases (X := uA gs0 5 g) B.2.1.2.2.1 h16 (by rw [uA_at]; exact B.2.2.1.2.2.1) x with ⟨⟨k, hk, rfl⟩, h1, -⟩ | ⟨h1, -⟩
  · rw [h1, if_neg (by decide)]
    refine Or.inl ⟨rfl, fun _ => rfl, fun Y hY => ?_⟩
    obtain ⟨q, hq⟩ := get_ex hk
    obtain ⟨p', F', g1, B1, m1⟩ := back_ok (B.at hY) hq
    obtain ⟨s', g2, z1, z2, z3, p2, F2, L2, W2, B2, S2⟩ := serve_ok (X := uA Y 5 g1) (B1.at uA_at)
    refine ⟨g2, ⟨p2, F2, L2, W2, w, B2, S2⟩, ?_⟩
    rcases loan_cases (X := Y) B.2.1.2.2.1 h16 (by rw [hY]; exact B.2.2.1.2.2.1) (nI k) with ⟨-, -, h3⟩ | ⟨h2, h3⟩
    · unfold m_X8_gives r_X0_giveBack
      dsimp only
      rw [h3, bnd1_some, if_neg (by decide), m1, bnd1_some, z3, bnd2_some, done_eq, bnd2_some, uA_uA, z2]
    · rw [h1] at h2; exact absurd h2 (by decide)
  · rw [h1, if_pos rfl]
    refine Or.inr (Or.inl ⟨rfl, fun _ => rfl, fun Y hY => ?_⟩)
    rcases loan_cases (X := Y) B.2.1.2.2.1 h16 (by rw [hY]; exact B.2.2.1.2.2.1) x with ⟨-, h2, h3⟩ | ⟨h2, h3⟩
    · rw [h1] at h2; exact absurd h2 (by decide)
    · unfold m_X8_gives
      dsimp only
      rw [h3, bnd1_some, if_pos rfl, fails_eq, bnd2_some]
theorem lp_countOf (S : ST p F L W w) (B : BB p F L W w b) {nm : Nat} (hnm : nm < 100) : ∀ (j i a : Nat), i + j = L.length → ∃ c, c ≤ j ∧ lp_X3_countOf_4 b (nI nm) j i (nI a) = nI (a + c) ∧ (c = 0 ↔ ∀ (t : Nat) (q : Nat × Nat × Nat), i ≤ t → L[t]? = some q → ¬ q.1 = nm) := by
  intro j
  induction j with
  | zero => intro i a hi; exact ⟨0, by omega, rfl, ⟨fun _ t q ht hq => by have := get_lt hq; omega, fun _ => rfl⟩⟩
  | succ j ih =>
    intro i a hi
    obtain ⟨q, hq⟩ := get_ex (L := L) (l := i) (by omega)
    have h4 := S.2.2.2.1 q (get_mem hq)
    rw [lp_X3_countOf_4, (loan_at S B hq).1]
    by_cases e : q.1 = nm
    · rw [if_pos (by rw [e]), nI_1]
      obtain ⟨c, h1, h2, h3⟩ := ih (i + 1) (a + 1) (by omega)
      refine ⟨c + 1, by omega, by rw [h2]; congr 1; omega, ⟨fun h => by omega, fun h => absurd e (h i q (Nat.le_refl _) hq)⟩⟩
    · rw [if_neg (nI_ne (by omega) (by omega) e)]
      obtain ⟨c, h1, h2, h3⟩ := ih (i + 1) a (by omega)
      refine ⟨c, by omega, h2, h3.trans ⟨fun h t r ht hr => ?_, fun h t r ht hr => h t r (by omega) hr⟩⟩
      by_cases e2 : t = i
      · subst e2
        rw [hq] at hr
        obtain rfl := Option.some.inj hr
        exact e
      · exact h t r (by omega) hr
theorem countOf_zero (S : ST p F L W w) (B : BB p F L W w b) {nm : Nat} (hnm : nm < 100) : r_X3_countOf b (nI nm) = 0 ↔ ∀ (t : Nat) (q : Nat × Nat × Nat), L[t]? = some q → ¬ q.1 = nm := by
  have h16 := S.2.2.2.2.1
  obtain ⟨c, h1, h2, h3⟩ := lp_countOf S B hnm L.length 0 0 (by omega)
  unfold r_X3_countOf
  rw [B.2.2.1, nI_clamp (by omega)]
  have h2' : lp_X3_countOf_4 b (nI nm) L.length 0 0 = nI (0 + c) := h2
  rw [h2', Nat.zero_add]
  constructor
  · intro h
    have : c = 0 := (nI_eq (a := c) (b := 0) (by omega) (by omega)).mp h
    exact fun t q hq => h3.mp this t q (Nat.zero_le _) hq
  · intro h
    rw [h3.mpr (fun t q _ hq => h t q hq)]; rfl
theorem lp_waitFor {X : GS} (S : ST p F L W w) (B : BB p F L W w b) (G : GG p L W w (X.2.2.1 5)) (x : Int32) : ∀ (j i : Nat) (a : Int32), i + j = W.length → lp_X8_waitingFor_4 X x j i a = some (lp_X6_countOf_4 b x j i a) := by
  intro j
  induction j with
  | zero => intro i a hi; rfl
  | succ j ih =>
    intro i a hi
    have h6 := S.2.2.2.2.2.2.1
    obtain ⟨q, hq⟩ := get_ex (L := W) (l := i) (by omega)
    rw [lp_X6_countOf_4, lp_X8_waitingFor_4, (wait_at S B hq).1, if_pos (by omega), (G.2.2.2.2.2 i q hq).1]
    by_cases e : nI q.1 = x
    · rw [if_pos e, if_pos e]; exact ih _ _ (by omega)
    · rw [if_neg e, if_neg e, Int32.add_zero]; exact ih _ _ (by omega)
theorem waitFor_ok {X : GS} (B : BG p F L W w b (X.2.2.1 5)) (x : Int32) : m_X8_waitingFor X x = some (r_X6_countOf b x) := by
  have h6 := B.1.2.2.2.2.2.2.1
  unfold m_X8_waitingFor r_X6_countOf
  rw [B.2.2.1.2.2.2.1, B.2.1.2.2.2.1, nI_clamp (by omega), lp_waitFor B.1 B.2.1 B.2.2.1 x W.length 0 0 (by omega)]
  rfl
/-- promise 5 -/
theorem out_giveAll (B : Bd b g) (x : Int32) : OUT g (u_X0_giveBackAll b x) (r_X7_judgeGiveAll b x) (r_X0_giveBackAll b x) (fun X => x_X7_judgeGiveAll X b x) (fun Y => m_X8_givesAll Y x) 1 1 2 := by
  obtain ⟨p, F, L, W, w, B, hS⟩ := B
  have h16 := B.1.2.2.2.2.1
  unfold r_X7_judgeGiveAll x_X7_judgeGiveAll m_X8_givesAll r_X0_giveBackAll u_X0_giveBackAll
  rcases name_cases x with ⟨⟨k, hk, rfl⟩, h1, h2⟩ | ⟨h1, h2⟩
  · simp only [h1, h2, bnd1_some, if_neg (show ¬ (1 : Int32) = 0 by decide)]
    have hz := countOf_zero B.1 B.2.1 hk
    by_cases e : r_X3_countOf b (nI k) = 0
    · rw [if_pos e]
      refine Or.inr (Or.inr (Or.inr ⟨rfl, 4, r_X6_countOf b (nI k), by decide, fun X => ?_, fun Y hY => ⟨g, ?_⟩⟩))
      · simp only [if_pos e]; rfl
      · obtain ⟨gv', y, p', F', L', b', g', z1, z2, z3, z4, z5⟩ := all_ok w hk L.length 1000 1000 0 p F L W b Y (B.at hY) (Nat.le_refl _) (by omega) (by omega)
        rcases z5 with ⟨rfl, rfl, rfl, -⟩ | ⟨z5, t, q, ht, hq, hn⟩
        · have z2' : lp_X8_givesAll_25 (nI k) 1000 0 (nI L.length - 1) Y = some (nI 0, y, uA Y 5 (Y.2.2.1 5)) := z2
          have hg : Y.2.2.1 5 64 = nI L.length := by rw [hY]; exact B.2.2.1.2.2.1
          dsimp only
          rw [hg, z2', bnd3_some, if_pos (show (nI 0 : Int32) = 0 from rfl), uA_self, waitFor_ok (B.at hY), bnd1_some, refused_eq, bnd2_some, ← hY, uA_self]
        · exact absurd hn (hz.mp e t q hq)
    · rw [if_neg e]
      refine Or.inl ⟨rfl, fun X => ?_, fun Y hY => ?_⟩
      · simp only [if_neg e]
      · obtain ⟨gv', y, p', F', L', b', g', z1, z2, z3, z4, z5⟩ := all_ok w hk L.length bigF 1000 0 p F L W b Y (B.at hY) (Nat.le_refl _) (by have : bigF = 4294967296 := rfl; omega) (by omega)
        have hg : Y.2.2.1 5 64 = nI L.length := by rw [hY]; exact B.2.2.1.2.2.1
        have z1' : lp_X0_giveBackAll_12 (nI k) bigF 0 (nI L.length - 1) b = some (nI gv', y, b') := z1
        have z2' : lp_X8_givesAll_25 (nI k) 1000 0 (nI L.length - 1) Y = some (nI gv', y, uA Y 5 g') := z2
        have hgv : ¬ gv' = 0 := by
          rcases z5 with ⟨h3, h4, h5, h6⟩ | ⟨h3, -⟩
          · exact absurd (hz.mpr (fun t q hq => h6 t q (get_lt hq) hq)) e
          · omega
        obtain ⟨s', g2, y1, y2, y3, p2, F2, L2, W2, B2, S2⟩ := serve_ok (X := uA Y 5 g') (z3.at uA_at)
        refine ⟨g2, ⟨p2, F2, L2, W2, w, ?_, S2⟩, ?_⟩
        · rw [B.2.1.2.2.1, z1']; exact B2
        · dsimp only
          rw [hg, z2', bnd3_some, if_neg (neL (k := 0) (x := 0) rfl (by omega) (by omega) hgv), y3, bnd2_some, done_eq, bnd2_some, uA_uA, B.2.1.2.2.1, z1']
          rfl
  · simp only [h1, h2, bnd1_some, if_true]
    exact Or.inr (Or.inr (Or.inl ⟨rfl, fun _ => rfl, fun Y _ => rfl⟩))
/-- promise 7 -/
theorem out_way (B : Bd b g) (x : Int32) : OUT g (u_X0_changeWay b x) (r_X7_judgeWay b x) (r_X0_changeWay b) (fun X => x_X7_judgeWay X b x) (fun Y => m_X8_wayIs Y x) 1 1 2 := by
  obtain ⟨p, F, L, W, w, B, hS⟩ := B
  have hw := B.1.2.2.2.2.2.2.2
  unfold r_X7_judgeWay x_X7_judgeWay m_X8_wayIs r_X0_changeWay u_X0_changeWay
  have e2 : (2 : Int32) = nI 2 := rfl
  rw [B.2.1.2.1]
  rcases in_cases (x := x) (n := 2) (by omega) with ⟨⟨k, hk, rfl⟩, h⟩ | ⟨h1, h⟩
  · have h' : m_X8_in (nI k) 0 2 = some 1 := h
    simp only [h', bnd1_some, if_neg (show ¬ (1 : Int32) = 0 by decide), if_neg (nI_pos (show k < 2 ^ 31 by omega)), if_pos (leR (k := 2) (x := 2) rfl hk (by omega))]
    by_cases e : w = k
    · rw [if_pos (by rw [e])]
      refine Or.inr (Or.inr (Or.inr ⟨rfl, 5, nI k, by decide, fun X => ?_, fun Y hY => ⟨g, ?_⟩⟩))
      · dsimp only
        rw [if_pos (by rw [e])]; rfl
      · dsimp only
        rw [if_pos (by rw [hY, B.2.2.1.2.1, e]), refused_eq, bnd2_some, ← hY, uA_self]
    · have ne := nI_ne (show w < 2 ^ 31 by omega) (show k < 2 ^ 31 by omega) e
      rw [if_neg ne]
      refine Or.inl ⟨rfl, fun X => ?_, fun Y hY => ?_⟩
      · dsimp only
        rw [if_neg ne]
      · have hg : Y.2.2.1 5 126 = nI w := by rw [hY]; exact B.2.2.1.2.1
        have B1 : BG p F L W k (bS b 0 (nI k)) (up (Y.2.2.1 5) 126 (nI k)) := by
          obtain ⟨S, B, G, hv1, hv2⟩ := B.at hY
          obtain ⟨s1, s2, s3, s4, s5, s6, s7, s8⟩ := S
          obtain ⟨b1, b2, b3, b4, b5, b6⟩ := B
          obtain ⟨k1, k2, k3, k4, k5, k6⟩ := G
          refine ⟨⟨s1, s2, s3, s4, s5, s6, s7, by omega⟩, ⟨b1, (show up b.1 0 (nI k) 0 = _ from up_self), (show up b.1 0 (nI k) 3 = _ by rw [up_ne (by decide)]; exact b3), (show up b.1 0 (nI k) 4 = _ by rw [up_ne (by decide)]; exact b4), b5, b6⟩, ⟨fun u hu => ?_, up_self, ?_, ?_, fun l q hq => ?_, fun t q hq => ?_⟩, ?_, ?_⟩
          · rw [up_ne (by omega)]; exact k1 u hu
          · rw [up_ne (by omega)]; exact k3
          · rw [up_ne (by omega)]; exact k4
          · have := get_lt hq
            rw [up_ne (by omega), up_ne (by omega), up_ne (by omega)]; exact k5 l q hq
          · have := get_lt hq
            rw [up_ne (by omega), up_ne (by omega)]; exact k6 t q hq
          · rw [up_ne (by omega)]; exact (show up b.1 0 (nI k) 1 = _ by rw [up_ne (by decide)]; exact hv1)
          · rw [up_ne (by omega)]; exact (show up b.1 0 (nI k) 2 = _ by rw [up_ne (by decide)]; exact hv2)
        obtain ⟨s', g2, y1, y2, y3, p2, F2, L2, W2, B2, S2⟩ := serve_ok (X := uA Y 5 (up (Y.2.2.1 5) 126 (nI k))) (B1.at uA_at)
        refine ⟨g2, ⟨p2, F2, L2, W2, k, B2, S2⟩, ?_⟩
        dsimp only
        rw [hg, if_neg ne, y3, bnd2_some, done_eq, bnd2_some, uA_uA]
  · have h' : m_X8_in x 0 2 = some 0 := h
    simp only [h', bnd1_some, if_true]
    by_cases h2 : x < 0
    · simp only [if_pos h2]
      exact Or.inr (Or.inr (Or.inl ⟨rfl, fun _ => rfl, fun Y _ => rfl⟩))
    · obtain ⟨j, hj, rfl⟩ := nI_of h2
      have h3 : ¬ nI j ≤ 2 := nleR (k := 2) (x := 2) rfl (Nat.not_le.mp (fun h => h1 j h rfl)) hj
      simp only [if_neg h2, if_neg h3]
      exact Or.inr (Or.inr (Or.inl ⟨rfl, fun _ => rfl, fun Y _ => rfl⟩))
/-- promise 8: the same form; the class's answer is 0 or 1 here -/
theorem out_forget (B : Bd b g) (x : Int32) : OUT g (u_X6_remove b x) (if r_X6_has b x = 0 then 1 else 0) ((u_X6_remove b x).1 4) (fun X => X) (fun Y => m_X8_forgets Y x) 1 2 2 := by
  obtain ⟨p, F, L, W, w, B, hS⟩ := B
  have h6 := B.1.2.2.2.2.2.2.1
  unfold m_X8_forgets
  rcases place_cases (b := b) B.2.1.2.2.2.1 h6 (hi := g 113) B.2.2.1.2.2.2.1 x with ⟨⟨k, hk, rfl⟩, h1, h2⟩ | ⟨h1, h2⟩
  · rw [h1, if_neg (by decide)]
    refine Or.inl ⟨rfl, fun _ => rfl, fun Y hY => ?_⟩
    obtain ⟨g', B', m'⟩ := rem_ok (B.at hY) hk
    refine ⟨g', ⟨p, F, L, _, w, B', fun q hq => hS q (List.mem_of_mem_eraseIdx hq)⟩, ?_⟩
    dsimp only
    rw [hY, h2, bnd1_some, if_neg (by decide), m', bnd1_some, done_eq, bnd2_some, uA_at, B'.2.2.1.2.2.2.1, B'.2.1.2.2.2.1]
  · rw [h1, if_pos rfl]
    refine Or.inr (Or.inl ⟨rfl, fun _ => rfl, fun Y hY => ?_⟩)
    dsimp only
    rw [hY, h2, bnd1_some, if_pos rfl, fails_eq, bnd2_some]
end
