/-! ===== the pure part, 14: resize, to the end ===== -/
section
variable {p : Nat → Nat} {F : Nat → Bool} {L : tL} {W : tWt} {w : Nat} {b : BD} {g : Nat → Int32}
/-- the piece of the loan l becomes free, while its loan stays -/
theorem free_own {Y : GS} {l : Nat} {q : Nat × Nat × Nat} {am : Int32} (B : BG p F L W w b (Y.2.2.1 5)) (hq : L[l]? = some q) :
    ∃ (p' : Nat → Nat) (F' : Nat → Bool) (J c : Nat) (g' : Nat → Int32), TI p' F' ∧ RC p' F' (u_X5_release b (nI q.2.2) (nI (nd q.2.1))) ∧ (u_X5_release b (nI q.2.2) (nI (nd q.2.1))).1 2 = b.1 2 + nI c ∧ (∀ i, ¬ i = 2 → (u_X5_release b (nI q.2.2) (nI (nd q.2.1))).1 i = b.1 i) ∧ (∀ i, ¬ i = 0 → (u_X5_release b (nI q.2.2) (nI (nd q.2.1))).2 i = b.2 i) ∧
      m_X8_joins (uA Y 5 (up (up (Y.2.2.1 5) (81 + l) am) (97 + l) (-1))) (nI q.2.2) = some (uA Y 5 g') ∧ g' 128 = Y.2.2.1 5 128 + nI c ∧ (∀ i, 64 ≤ i → ¬ i = 128 → g' i = up (up (Y.2.2.1 5) (81 + l) am) (97 + l) (-1) i) ∧ RM p' F' L.length g' ∧ r_X5_joinedSize b (nI q.2.2) (nI (nd q.2.1)) = nI J ∧ nd q.2.1 ≤ J ∧ J ≤ 64 ∧
      (∀ u, u < 64 → ((p' u ≠ 0 ∧ F' u = false) ↔ (u ≠ q.2.2 ∧ p u ≠ 0 ∧ F u = false))) ∧
      (∀ u, u < 64 → u ≠ q.2.2 → p u ≠ 0 → F u = false → p' u = p u) ∧ (∃ u, u < 64 ∧ F' u = true ∧ p' u = J) ∧
      (∀ u, u < 64 → F' u = true → p' u = J ∨ (F u = true ∧ p' u = p u)) ∧
      (∀ u, u < 64 → F u = true → p u ≤ J ∨ (F' u = true ∧ p' u = p u)) := by
  obtain ⟨S, B, G, hv1, hv2⟩ := B
  have HL0 := S.HL G
  obtain ⟨s1, s2, s3, s4, s5, s6, s7, s8⟩ := S
  obtain ⟨b1, b2, b3, b4, b5, b6⟩ := B
  obtain ⟨k1, k2, k3, k4, k5, k6⟩ := G
  have hl := get_lt hq
  have q4 := s4 q (get_mem hq)
  have hFq : F q.2.2 = false := ((s2 _ q4.2.2.2.1).mpr ⟨q, get_mem hq, rfl⟩).2
  have HL : ∀ u, u < 64 → ((∃ t, t < L.length ∧ (uA Y 5 (up (up (Y.2.2.1 5) (81 + l) am) (97 + l) (-1))).2.2.1 5 (97 + t) = nI u) ↔ (u ≠ q.2.2 ∧ p u ≠ 0 ∧ F u = false)) := by
    intro u hu
    rw [uA_at]
    constructor
    · rintro ⟨t, ht, hz⟩
      by_cases e : t = l
      · subst e
        rw [up_self] at hz
        exact absurd hz.symm (nI_m1 (by omega))
      · rw [up_ne (by omega), up_ne (by omega)] at hz
        refine ⟨fun e2 => ?_, (HL0 u hu).mp ⟨t, ht, hz⟩⟩
        obtain ⟨r, hr⟩ := get_ex ht
        have h1 := (k5 t r hr).2.2
        rw [hz] at h1
        have h2 := (s4 r (get_mem hr)).2.2.2.1
        have h3 := (nI_eq (by omega) (by omega)).mp h1
        exact e (nodup_at s3 hr hq (by rw [← h3, e2]))
    · rintro ⟨h1, h2⟩
      obtain ⟨t, ht, hz⟩ := (HL0 u hu).mpr h2
      have e : ¬ t = l := by
        intro e
        subst e
        rw [(k5 t q hq).2.2] at hz
        exact h1 ((nI_eq (by omega) (by omega)).mp hz).symm
      exact ⟨t, ht, by rw [up_ne (by omega), up_ne (by omega)]; exact hz⟩
  obtain ⟨p', F', J, c, g', t1, t2, t3, t4, t5, t6, t7, t8, t9, t10, t11, t12, t13, t14, t15, t16, t17⟩ := rel_ok (p := p) (F := F) (n := L.length) (st := q.2.2) (s := nd q.2.1) (b := b) (X := uA Y 5 (up (up (Y.2.2.1 5) (81 + l) am) (97 + l) (-1))) s1 q4.2.2.2.1 q4.2.2.2.2 (isP_nd _) hFq b1
    (fun u hu => by rw [uA_at, up_ne (by omega), up_ne (by omega)]; exact k1 u hu) s5 (by rw [uA_at, up_ne (by omega), up_ne (by omega)]; exact k3) HL
  rw [uA_uA] at t6
  rw [uA_at] at t7 t8
  rw [up_ne (by omega), up_ne (by omega)] at t7
  exact ⟨p', F', J, c, g', t1, t2, t3, t4, t5, t6, t7, t8, t9, t10, t11, t12, t13, t14, t15, t16, t17⟩
theorem change_eq {l am s st : Nat} (h1 : 1 ≤ am) (h2 : am ≤ 64) (hs : s ≤ 64) (e1 : r_X3_sizeAt b (nI l) = nI s) (e2 : r_X3_startAt b (nI l) = nI st) :
    (s = nd am → r_X0_changeAmount b (nI l) (nI am) = nI st ∧ u_X0_changeAmount b (nI l) (nI am) = u_X3_put b (nI l) (nI am) (nI st) (nI (nd am))) ∧
    (s < nd am → r_X0_changeAmount b (nI l) (nI am) = r_X5_take (u_X5_release b (nI st) (nI s)) (nI (nd am)) ∧ u_X0_changeAmount b (nI l) (nI am) = u_X0_serveWaiting (u_X3_put (u_X5_take (u_X5_release b (nI st) (nI s)) (nI (nd am))) (nI l) (nI am) (r_X5_take (u_X5_release b (nI st) (nI s)) (nI (nd am))) (nI (nd am)))) ∧
    (nd am < s → r_X0_changeAmount b (nI l) (nI am) = r_X5_cutDown b (nI st) (nI s) (nI (nd am)) ∧ u_X0_changeAmount b (nI l) (nI am) = u_X0_serveWaiting (u_X3_put (u_X5_cutDown b (nI st) (nI s) (nI (nd am))) (nI l) (nI am) (r_X5_cutDown b (nI st) (nI s) (nI (nd am))) (nI (nd am)))) := by
  have hN := isP_le (isP_nd am)
  unfold r_X0_changeAmount u_X0_changeAmount
  rw [e1, e2, need_nI h1 h2]
  refine ⟨fun h => ?_, fun h => ?_, fun h => ?_⟩
  · subst h
    have c1 : nI (nd am) ≤ nI (nd am) := nI_le (Nat.le_refl _) (by omega)
    rw [if_pos c1, if_pos c1, if_pos rfl, if_pos c1, if_pos c1, if_pos rfl]
    exact ⟨rfl, rfl⟩
  · have c1 : nI s ≤ nI (nd am) := nI_le (by omega) (by omega)
    have c2 : ¬ nI (nd am) ≤ nI s := nI_ge (by omega) (by omega)
    have c3 : ¬ nI (nd am) = nI s := nI_ne (by omega) (by omega) (by omega)
    rw [if_pos c1, if_neg c2, if_neg c3, if_pos c1, if_neg c2, if_neg c3]
    exact ⟨rfl, rfl⟩
  · have c1 : ¬ nI s ≤ nI (nd am) := nI_ge (by omega) (by omega)
    have c2 : nI (nd am) ≤ nI s := nI_le (by omega) (by omega)
    have c3 : ¬ nI (nd am) = nI s := nI_ne (by omega) (by omega) (by omega)
    rw [if_neg c1, if_pos c2, if_neg c3, if_neg c1, if_pos c2, if_neg c3]
    exact ⟨rfl, rfl⟩
/-- promise 6 -/
theorem out_resize (B : Bd b g) (x y : Int32) : OUT g (u_X0_changeAmount b x y) (r_X7_judgeResize b x y) (r_X0_changeAmount b x y) (fun X => x_X7_judgeResize X b x y) (fun Y => m_X8_resizes Y x y) 1 2 3 := by
  obtain ⟨p, F, L, W, w, B, hS⟩ := B
  have h16 := B.1.2.2.2.2.1
  unfold r_X7_judgeResize x_X7_judgeResize
  have LC := fun Y (hY : (Y : GS).2.2.1 5 = g) => loan_cases (X := Y) (x := x) B.2.1.2.2.1 h16 (by rw [hY]; exact B.2.2.1.2.2.1)
  rcases LC (uA gs0 5 g) uA_at with ⟨⟨l, hl, rfl⟩, h1, -⟩ | ⟨h1, -⟩
  · have LC1 : ∀ Y : GS, Y.2.2.1 5 = g → m_X8_isLoan Y (nI l) = some 1 := fun Y hY => by
      rcases LC Y hY with ⟨-, -, h⟩ | ⟨h, -⟩
      · exact h
      · rw [h1] at h; exact absurd h (by decide)
    rcases amount_cases y with ⟨⟨am, ha1, ha2, rfl⟩, h3, h4⟩ | ⟨h3, h4⟩
    · obtain ⟨q, hq⟩ := get_ex hl
      have q4 := B.1.2.2.2.1 q (get_mem hq)
      obtain ⟨at1, at2, at3, at4⟩ := loan_at B.1 B.2.1 hq
      simp only [h1, h3, if_neg (show ¬ (1 : Int32) = 0 by decide), at2]
      have hN := isP_le (isP_nd am)
      have hN0 := isP_pos (isP_nd am)
      have hs := isP_le (isP_nd q.2.1)
      have hs0 := isP_pos (isP_nd q.2.1)
      have gq := B.2.2.1.2.2.2.2.1 l q hq
      have a81 : (81 : Int32) + nI l = nI (81 + l) := nI_add 81 l
      have a97 : (97 : Int32) + nI l = nI (97 + l) := nI_add 97 l
      have i81 := inR_nI (show 81 + l < 129 by omega) (show 129 < 2 ^ 31 by omega)
      have i97 := inR_nI (show 97 + l < 129 by omega) (show 129 < 2 ^ 31 by omega)
      have ist := inR_nI (show q.2.2 < 129 by omega) (show 129 < 2 ^ 31 by omega)
      have c81 := nI_clamp (show 81 + l < 2 ^ 31 by omega)
      have c97 := nI_clamp (show 97 + l < 2 ^ 31 by omega)
      have cst := nI_clamp (show q.2.2 < 2 ^ 31 by omega)
      have gst : g q.2.2 = nI (nd q.2.1) := by rw [B.2.2.1.1 _ q4.2.2.2.1, q4.2.2.2.2]
      by_cases e : q.2.1 = am
      · rw [if_pos (by rw [e])]
        refine Or.inr (Or.inr (Or.inr ⟨rfl, 5, nI am, by decide, fun X => ?_, fun Y hY => ⟨g, ?_⟩⟩))
        · simp only [if_pos (show nI q.2.1 = nI am by rw [e])]; rfl
        · dsimp only
          unfold m_X8_resizes
          rw [LC1 Y hY, bnd1_some, if_neg (by decide), h4, bnd1_some, if_neg (by decide)]
          simp only [a81, if_pos i81, c81, hY, gq.2.1, if_pos (show nI q.2.1 = nI am by rw [e])]
          rw [refused_eq, bnd2_some, ← hY, uA_self]
      · have ne : ¬ nI q.2.1 = nI am := nI_ne (by omega) (by omega) e
        simp only [if_neg ne, need_nI ha1 ha2]
        have hrez : ∀ Y : GS, Y.2.2.1 5 = g → m_X8_resizes Y (nI l) (nI am) =
            (if nd am ≤ nd q.2.1 then (if nd q.2.1 ≤ nd am then m_X8_done (uA Y 5 (up g (81 + l) (nI am))) (nI q.2.2) else
              bnd2 (m_X8_halves (uA Y 5 (up g (81 + l) (nI am))) (nI q.2.2) (nI (nd am))) fun v X19 => bnd2 (m_X8_serves (uA X19 5 (up (X19.2.2.1 5) (97 + l) v))) fun _ X23 => m_X8_done X23 v) else
              bnd2 (m_X8_grows (uA Y 5 (up g (81 + l) (nI am))) (nI l) (nI (nd am))) fun v26 X26 => if v26 = 0 then (bnd1 (m_X8_greatestFree X26) fun v42 => m_X8_refused X26 2 v42 3) else bnd2 (m_X8_serves X26) fun _ X31 => m_X8_done X31 (X26.2.2.1 5 (97 + l))) := by
          intro Y hY
          have e97 : up g (81 + l) (nI am) (97 + l) = nI q.2.2 := by rw [up_ne (by omega)]; exact gq.2.2
          unfold m_X8_resizes
          rw [LC1 Y hY, bnd1_some, if_neg (by decide), h4, bnd1_some, if_neg (by decide)]
          simp only [a81, a97, if_pos i81, if_pos i97, c81, c97, hY, gq.2.1, gq.2.2, if_neg ne, if_pos ist, cst, gst, mneed_nI ha1 ha2, bnd1_some, e97]
          by_cases d1 : nd am ≤ nd q.2.1
          · rw [if_pos (nI_le d1 (by omega)), if_pos d1]
            by_cases d2 : nd q.2.1 ≤ nd am
            · have d3 : nd am = nd q.2.1 := by omega
              rw [if_pos (nI_le d2 (by omega)), if_pos d2, if_pos (by rw [d3]), done_eq, bnd2_some]
            · rw [if_neg (nI_ge (by omega) (by omega)), if_neg d2]
              congr 1
              funext v X19
              rw [if_neg (nI_ne (by omega) (by omega) (by omega)), up_self]
              congr 1
          · rw [if_neg (nI_ge (by omega) (by omega)), if_neg d1]
            congr 1
            funext v X26
            by_cases d3 : v = 0
            · rw [if_pos d3, if_pos d3]
              congr 1
            · rw [if_neg d3, if_neg d3, if_pos (nI_le (by omega) (by omega)), if_neg (nI_ne (by omega) (by omega) (by omega))]
              congr 1
        obtain ⟨ce1, ce2, ce3⟩ := change_eq (b := b) (l := l) (st := q.2.2) ha1 ha2 hs at4 at3
        -- what is greatest without the loan
        obtain ⟨p0, F0, J0, c0, g0, -, -, -, -, -, -, -, -, -, i10, i11, i12, -⟩ := free_own (Y := uA gs0 5 g) (am := nI am) (B.at uA_at) hq
        obtain ⟨M0, j1, j2, -, j4, j5⟩ := greatest_ok (X := uA gs0 5 g) B.1.1 (by rw [uA_at]; exact B.1.RM B.2.2.1) B.2.1.1
        have hgsw : r_X0_greatestSizeWithout b (nI l) = nI (if J0 < M0 then M0 else J0) := by
          unfold r_X0_greatestSizeWithout
          rw [at3, at4, i10, j2]
          by_cases d : J0 < M0
          · rw [if_pos (nI_lt d (by omega)), if_pos d]
          · rw [if_neg (nI_nlt (by omega) (by omega)), if_neg d]
        have hmx : (if J0 < M0 then M0 else J0) ≤ 64 := by split <;> omega
        by_cases d1 : nd am ≤ nd q.2.1
        · -- the need isn't greater
          have hv : nI (nd am) ≤ r_X0_greatestSizeWithout b (nI l) := by rw [hgsw]; exact nI_le (by split <;> omega) (by omega)
          rw [if_pos hv]
          refine Or.inl ⟨rfl, fun X => by simp only [if_pos hv], fun Y hY => ?_⟩
          dsimp only
          rw [hrez Y hY, if_pos d1]
          by_cases d2 : nd q.2.1 ≤ nd am
          · -- it is the same
            have d3 : nd q.2.1 = nd am := by omega
            rw [if_pos d2, (ce1 d3).1, (ce1 d3).2, done_eq]
            have B' := set_ok (p' := p) (F' := F) (am := am) (a' := q.2.2) (b1 := b) (g2 := up g (81 + l) (nI am)) B hq ha1 ha2 B.1.1 q4.2.2.2.1 (by rw [q4.2.2.2.2, d3])
              (fun u hu => by
                constructor
                · intro h
                  by_cases z : u = q.2.2
                  · exact Or.inl z
                  · exact Or.inr ⟨z, h⟩
                · rintro (h | h)
                  · rw [h]; exact (B.1.2.1 _ q4.2.2.2.1).mpr ⟨q, get_mem hq, rfl⟩
                  · exact h.2)
              (fun _ _ _ _ _ => rfl) (fun h => h.1 rfl) B.2.1.1 rfl rfl rfl (fun _ _ => rfl)
              (fun u hu => by rw [up_ne (by omega)]; exact B.2.2.1.1 u hu) (by rw [up_ne (by omega)]) (by rw [up_ne (by omega)]) (by rw [up_ne (by omega)]) (fun t ht => by rw [up_ne (by omega)])
              (fun t ht => by
                by_cases z : t = l
                · subst z; rw [up_self, if_pos rfl]
                · rw [up_ne (by omega), if_neg z])
              (fun t ht => by
                rw [up_ne (by omega)]
                by_cases z : t = l
                · subst z; rw [if_pos rfl]; exact gq.2.2
                · rw [if_neg z])
              (fun t ht => by rw [up_ne (by omega)]) (fun t ht => by rw [up_ne (by omega)]) (by rw [up_ne (by omega)]; exact B.2.2.2.1) (by rw [up_ne (by omega)]; exact B.2.2.2.2)
            exact ⟨up g (81 + l) (nI am), ⟨p, F, _, W, w, B', fun r hr => by rw [List.length_set]; exact hS r hr⟩, rfl⟩
          · -- it is less
            have d3 : nd am < nd q.2.1 := by omega
            obtain ⟨k, hk, hkk⟩ := isP_up (isP_nd am) (isP_nd q.2.1) d1
            have hFq : F q.2.2 = false := ((B.1.2.1 _ q4.2.2.2.1).mpr ⟨q, get_mem hq, rfl⟩).2
            obtain ⟨p', F', a', C, ⟨y', b', c1, c2, c3, c4, c5⟩, g', f1, f2, f3, f4⟩ := cut_ok (isP_nd am) B.1.2.2.2.2.2.2.2 k p F q.2.2 b (uA Y 5 (up g (81 + l) (nI am))) 64 1000 (by omega) (by omega) B.1.1 q4.2.2.2.1 (by rw [q4.2.2.2.2, hkk]) hFq B.2.1.1 (fun u hu => by rw [uA_at, up_ne (by omega)]; exact B.2.2.1.1 u hu) B.2.1.2.1 (by rw [uA_at, up_ne (by omega)]; exact B.2.2.1.2.1)
            rw [uA_at] at f3 f4
            rw [uA_uA] at f1
            rw [← hkk, ← nI_half (show nd q.2.1 < 2 ^ 31 by omega)] at c1
            obtain ⟨C1, C2, C3, C4, C5, C6, C7, C8⟩ := C
            have t3 : r_X5_cutDown b (nI q.2.2) (nI (nd q.2.1)) (nI (nd am)) = nI a' := by
              unfold r_X5_cutDown; rw [c1]; rfl
            have t4 : u_X5_cutDown b (nI q.2.2) (nI (nd q.2.1)) (nI (nd am)) = b' := by
              unfold u_X5_cutDown; rw [c1]; rfl
            rw [if_neg d2, (ce3 d3).1, (ce3 d3).2, t3, t4]
            have B' := set_ok (p' := p') (F' := F') (am := am) (a' := a') (b1 := b') (g2 := up g' (97 + l) (nI a')) B hq ha1 ha2 C2 C1 C3 C5 (fun u hu z1 z2 _ => C6 u hu z1 z2)
              (fun h => by rcases C8 with z | z; exact h.1 z; exact h.2.1 z) c2 (c4 0 (by decide)) (c4 3 (by decide)) (c4 4 (by decide)) c5
              (fun u hu => by rw [up_ne (by omega)]; exact f2 u hu) (by rw [up_ne (by omega), f4 126 (by omega) (by omega), up_ne (by omega)]) (by rw [up_ne (by omega), f4 64 (by omega) (by omega), up_ne (by omega)]) (by rw [up_ne (by omega), f4 113 (by omega) (by omega), up_ne (by omega)]) (fun t ht => by rw [up_ne (by omega), f4 _ (by omega) (by omega), up_ne (by omega)])
              (fun t ht => by
                rw [up_ne (by omega), f4 _ (by omega) (by omega)]
                by_cases z : t = l
                · subst z; rw [up_self, if_pos rfl]
                · rw [up_ne (by omega), if_neg z])
              (fun t ht => by
                by_cases z : t = l
                · subst z; rw [if_pos rfl, up_self]
                · rw [up_ne (by omega), if_neg z, f4 _ (by omega) (by omega), up_ne (by omega)])
              (fun t ht => by rw [up_ne (by omega), f4 _ (by omega) (by omega), up_ne (by omega)]) (fun t ht => by rw [up_ne (by omega), f4 _ (by omega) (by omega), up_ne (by omega)])
              (by rw [up_ne (by omega), f3, c3, up_ne (by omega), B.2.2.2.1]) (by rw [up_ne (by omega), f4 128 (by omega) (by omega), c4 2 (by decide), up_ne (by omega)]; exact B.2.2.2.2)
            obtain ⟨s', g5, y1, y2, y3, p2, F2, L2, W2, B2, S2⟩ := serve_ok (X := uA Y 5 (up g' (97 + l) (nI a'))) (B'.at uA_at)
            refine ⟨g5, ⟨p2, F2, L2, W2, w, B2, S2⟩, ?_⟩
            unfold m_X8_halves
            rw [f1, bnd2_some, bnd2_some, uA_at, uA_uA, y3, bnd2_some, done_eq, uA_uA]
        · -- the need is greater
          have d3 : nd q.2.1 < nd am := by omega
          have GR : ∀ Y : GS, Y.2.2.1 5 = g → ∃ (p' : Nat → Nat) (F' : Nat → Bool) (c : Nat) (g' : Nat → Int32) (M : Nat), TI p' F' ∧ RC p' F' (u_X5_release b (nI q.2.2) (nI (nd q.2.1))) ∧ (u_X5_release b (nI q.2.2) (nI (nd q.2.1))).1 2 = b.1 2 + nI c ∧ (∀ i, ¬ i = 2 → (u_X5_release b (nI q.2.2) (nI (nd q.2.1))).1 i = b.1 i) ∧ (∀ i, ¬ i = 0 → (u_X5_release b (nI q.2.2) (nI (nd q.2.1))).2 i = b.2 i) ∧
              m_X8_joins (uA Y 5 (up (up g (81 + l) (nI am)) (97 + l) (-1))) (nI q.2.2) = some (uA Y 5 g') ∧ g' 128 = g 128 + nI c ∧ (∀ i, 64 ≤ i → ¬ i = 128 → g' i = up (up g (81 + l) (nI am)) (97 + l) (-1) i) ∧ RM p' F' L.length g' ∧
              (∀ u, u < 64 → ((p' u ≠ 0 ∧ F' u = false) ↔ (u ≠ q.2.2 ∧ p u ≠ 0 ∧ F u = false))) ∧ (∀ u, u < 64 → u ≠ q.2.2 → p u ≠ 0 → F u = false → p' u = p u) ∧
              M = (if J0 < M0 then M0 else J0) ∧ m_X8_greatestFree (uA Y 5 g') = some (nI M) ∧ (∀ u, u < 64 → F' u = true → p' u ≤ M) ∧ ∃ u, u < 64 ∧ F' u = true ∧ p' u = M := by
            intro Y hY
            obtain ⟨p', F', J, c, g', t1, t2, t3, t4, t5, t6, t7, t8, t9, t10, t11, t12, t13, t14, ⟨u1, t15, t15b, t15c⟩, t16, t17⟩ := free_own (am := nI am) (B.at hY) hq
            obtain ⟨M, m1, m2, m3, m4, m5⟩ := greatest_ok (X := uA Y 5 g') t1 (by rw [uA_at]; exact t9) t2
            have hJ : J = J0 := by rw [i10] at t10; exact ((nI_eq (by omega) (by omega)).mp t10).symm
            subst hJ
            have g1 := m4 u1 t15 t15b
            have hM : M = (if J < M0 then M0 else J) := by
              have hle : M0 ≤ M := by
                rcases j5 with z | ⟨u, hu, z1, z2⟩
                · omega
                · rcases t17 u hu z1 with z3 | ⟨z3, z4⟩
                  · omega
                  · have := m4 u hu z3; omega
              have hge : M ≤ J ∨ M ≤ M0 := by
                rcases m5 with z | ⟨u, hu, z1, z2⟩
                · left; omega
                · rcases t16 u hu z1 with z3 | ⟨z3, z4⟩
                  · left; omega
                  · right; have := j4 u hu z3; omega
              split <;> omega
            rw [hY] at t6 t7 t8
            refine ⟨p', F', c, g', M, t1, t2, t3, t4, t5, t6, t7, t8, t9, t13, t14, hM, m3, m4, ?_⟩
            rcases m5 with z | z
            · exact ⟨u1, t15, t15b, by omega⟩
            · exact z
          have hgr : ∀ (Y : GS) (g' : Nat → Int32), Y.2.2.1 5 = g → m_X8_joins (uA Y 5 (up (up g (81 + l) (nI am)) (97 + l) (-1))) (nI q.2.2) = some (uA Y 5 g') → m_X8_grows (uA Y 5 (up g (81 + l) (nI am))) (nI l) (nI (nd am)) = bnd1 (m_X8_finds (uA Y 5 g') (nI (nd am))) fun v4 => if v4 = -1 then some (0, uA Y 5 g') else bnd2 (m_X8_halves (uA Y 5 g') v4 (nI (nd am))) fun v7 X7 => some (1, uA X7 5 (up (X7.2.2.1 5) (97 + l) v7)) := by
            intro Y g' hY hj
            unfold m_X8_grows
            simp only [a97, if_pos i97, c97, uA_at, uA_uA]
            rw [up_ne (show ¬ 97 + l = 81 + l by omega), gq.2.2, hj, bnd1_some]
            congr 1
            funext v4
            by_cases z : v4 = -1
            · rw [if_pos z, if_pos z, if_pos z]
            · rw [if_neg z, if_neg z]
              congr 1
              funext v7 X7
              rw [if_neg z]
          by_cases d4 : nd am ≤ (if J0 < M0 then M0 else J0)
          · -- and there is one
            have hv : nI (nd am) ≤ r_X0_greatestSizeWithout b (nI l) := by rw [hgsw]; exact nI_le d4 (by omega)
            rw [if_pos hv]
            refine Or.inl ⟨rfl, fun X => by simp only [if_pos hv], fun Y hY => ?_⟩
            dsimp only
            obtain ⟨p', F', c, g', M, t1, t2, t3, t4, t5, t6, t7, t8, t9, t13, t14, hM, m3, m4, um, m5, m6, m7⟩ := GR Y hY
            have t126 : g' 126 = nI w := by rw [t8 126 (by omega) (by omega), up_ne (by omega), up_ne (by omega)]; exact B.2.2.1.2.1
            obtain ⟨v, a', p2, F2, c', g4, o1, o2, o3, C, o5, o6, o7, o8, o9, o10, o11, o12, o13⟩ := take_ok (X := uA Y 5 g') (n := L.length) (w := w) t1 (by rw [uA_at]; exact t9) t2 B.1.2.2.2.2.2.2.2 (by rw [t4 0 (by decide)]; exact B.2.1.2.1) (by rw [uA_at]; exact t126) (isP_nd am) ⟨um, m5, m6, by omega⟩
            rw [uA_at] at o12 o13
            rw [uA_uA] at o10
            obtain ⟨C1, C2, C3, C4, C5, C6, C7, C8⟩ := C
            rw [hrez Y hY, if_neg d1, hgr Y g' hY t6, o3, bnd1_some, if_neg (nI_m1 (by omega)), o10, bnd2_some, bnd2_some, if_neg (by decide), uA_at, uA_uA, uA_at, up_self, (ce2 d3).1, (ce2 d3).2, o5]
            have e8 : ∀ i, 64 ≤ i → ¬ i = 127 → ¬ i = 128 → g4 i = up (up g (81 + l) (nI am)) (97 + l) (-1) i := fun i z1 z2 z3 => by rw [o13 i z1 z2, t8 i z1 z3]
            have B' := set_ok (p' := p2) (F' := F2) (am := am) (a' := a') (b1 := u_X5_take (u_X5_release b (nI q.2.2) (nI (nd q.2.1))) (nI (nd am))) (g2 := up g4 (97 + l) (nI a')) B hq ha1 ha2 C2 C1 C3
              (fun u hu => by
                rw [C5 u hu]
                constructor
                · rintro (z | ⟨z1, z2, z3⟩)
                  · exact Or.inl z
                  · rw [up_ne z1] at z3
                    exact Or.inr ((t13 u hu).mp ⟨z2, z3⟩)
                · rintro (z | z)
                  · exact Or.inl z
                  · obtain ⟨z2, z3⟩ := (t13 u hu).mpr z
                    have z1 : ¬ u = v := fun z4 => by rw [z4, o2] at z3; cases z3
                    exact Or.inr ⟨z1, z2, by rw [up_ne z1]; exact z3⟩)
              (fun u hu z1 z2 z3 => by
                obtain ⟨z4, z5⟩ := (t13 u hu).mpr ⟨z1, z2, z3⟩
                have z6 : ¬ u = v := fun z => by rw [z, o2] at z5; cases z5
                rw [C6 u hu z6 z4, t14 u hu z1 z2 z3])
              (fun h => by
                obtain ⟨z4, z5⟩ := (t13 a' C1).mpr h
                rcases C8 with z | z
                · rw [z, o2] at z5; cases z5
                · exact z4 z)
              o6 (by rw [o8 0 (by decide), t4 0 (by decide)]) (by rw [o8 3 (by decide), t4 3 (by decide)]) (by rw [o8 4 (by decide), t4 4 (by decide)]) (fun i hi => by rw [o9 i hi, t5 i hi])
              (fun u hu => by rw [up_ne (by omega)]; exact o11 u hu) (by rw [up_ne (by omega), e8 126 (by omega) (by omega) (by omega), up_ne (by omega), up_ne (by omega)]) (by rw [up_ne (by omega), e8 64 (by omega) (by omega) (by omega), up_ne (by omega), up_ne (by omega)]) (by rw [up_ne (by omega), e8 113 (by omega) (by omega) (by omega), up_ne (by omega), up_ne (by omega)]) (fun t ht => by rw [up_ne (by omega), e8 _ (by omega) (by omega) (by omega), up_ne (by omega), up_ne (by omega)])
              (fun t ht => by
                rw [up_ne (by omega), e8 _ (by omega) (by omega) (by omega), up_ne (by omega)]
                by_cases z : t = l
                · subst z; rw [up_self, if_pos rfl]
                · rw [up_ne (by omega), if_neg z])
              (fun t ht => by
                by_cases z : t = l
                · subst z; rw [if_pos rfl, up_self]
                · rw [up_ne (by omega), if_neg z, e8 _ (by omega) (by omega) (by omega), up_ne (by omega), up_ne (by omega)])
              (fun t ht => by rw [up_ne (by omega), e8 _ (by omega) (by omega) (by omega), up_ne (by omega), up_ne (by omega)]) (fun t ht => by rw [up_ne (by omega), e8 _ (by omega) (by omega) (by omega), up_ne (by omega), up_ne (by omega)])
              (by rw [up_ne (by omega), o12, o7, t4 1 (by decide), t8 127 (by omega) (by omega), up_ne (by omega), up_ne (by omega), B.2.2.2.1]) (by rw [up_ne (by omega), o13 128 (by omega) (by omega), o8 2 (by decide), t3, t7, B.2.2.2.2])
            obtain ⟨s', g5, y1, y2, y3, p5, F5, L5, W5, B5, S5⟩ := serve_ok (X := uA Y 5 (up g4 (97 + l) (nI a'))) (B'.at uA_at)
            refine ⟨g5, ⟨p5, F5, L5, W5, w, B5, S5⟩, ?_⟩
            rw [y3, bnd2_some, done_eq, uA_uA]
          · -- and there is none
            have hv : ¬ nI (nd am) ≤ r_X0_greatestSizeWithout b (nI l) := by rw [hgsw]; exact nI_ge (by omega) (by omega)
            rw [if_neg hv]
            refine Or.inr (Or.inr (Or.inr ⟨rfl, 2, r_X0_greatestSizeWithout b (nI l), by decide, fun X => by simp only [if_neg hv]; rfl, fun Y hY => ?_⟩))
            dsimp only
            obtain ⟨p', F', c, g', M, t1, t2, t3, t4, t5, t6, t7, t8, t9, t13, t14, hM, m3, m4, um, m5, m6, m7⟩ := GR Y hY
            have t126 : g' 126 = nI w := by rw [t8 126 (by omega) (by omega), up_ne (by omega), up_ne (by omega)]; exact B.2.2.1.2.1
            obtain ⟨f1, f2⟩ := find_ok (X := uA Y 5 g') t1 (by rw [uA_at]; exact t9) t2 B.1.2.2.2.2.2.2.2 (by rw [t4 0 (by decide)]; exact B.2.1.2.1) (by rw [uA_at]; exact t126) hN0 hN
            have f3 : m_X8_finds (uA Y 5 g') (nI (nd am)) = some (-1) := by
              rcases f2 with ⟨z, -⟩ | ⟨v, z1, z2, z3, z4⟩
              · rw [f1, z]
              · have := m4 v z1 z3; omega
            refine ⟨g', ?_⟩
            rw [hrez Y hY, if_neg d1, hgr Y g' hY t6, f3, bnd1_some, if_pos rfl, bnd2_some, if_pos rfl, m3, bnd1_some, refused_eq, hgsw, hM]
    · simp only [h1, h3, if_neg (show ¬ (1 : Int32) = 0 by decide), if_true]
      refine Or.inr (Or.inr (Or.inl ⟨rfl, fun _ => rfl, fun Y hY => ?_⟩))
      dsimp only
      unfold m_X8_resizes
      rw [LC1 Y hY, bnd1_some, if_neg (by decide), h4, bnd1_some, if_pos rfl, fails_eq, bnd2_some]
  · simp only [h1, if_true]
    refine Or.inr (Or.inl ⟨rfl, fun _ => rfl, fun Y hY => ?_⟩)
    dsimp only
    rcases LC Y hY with ⟨-, h, -⟩ | ⟨-, h⟩
    · rw [h1] at h; exact absurd h (by decide)
    · unfold m_X8_resizes
      rw [h, bnd1_some, if_pos rfl, fails_eq, bnd2_some]
end
