/-! ===== the pure part, 13: resize ===== -/
section
variable {p : Nat → Nat} {F : Nat → Bool} {L : tL} {W : tWt} {w : Nat} {b : BD} {g : Nat → Int32}
theorem put_prj {b : BD} {n l : Nat} {am st sz : Int32} (hn : n ≤ 16) (h3 : b.1 3 = nI n) (hl : l < n) :
    (u_X3_put b (nI l) am st sz).1 = b.1 ∧ (u_X3_put b (nI l) am st sz).2 = up (up (up b.2 2 (up (b.2 2) l am)) 3 (up (b.2 3) l st)) 4 (up (b.2 4) l sz) := by
  unfold u_X3_put
  rw [has3_t h3 hn hl, if_neg (by decide), nI_clamp (by omega)]
  exact ⟨rfl, rfl⟩
theorem get_set {α : Type} {L : List α} {l t : Nat} {q r : α} (h : (L.set l q)[t]? = some r) : (t = l ∧ r = q) ∨ (¬ t = l ∧ L[t]? = some r) := by
  by_cases e : t = l
  · subst e
    have hl : t < (L.set t q).length := get_lt h
    rw [List.length_set] at hl
    rw [List.getElem?_set_self hl] at h
    exact Or.inl ⟨rfl, (Option.some.inj h).symm⟩
  · rw [List.getElem?_set_ne (Ne.symm e)] at h
    exact Or.inr ⟨e, h⟩
theorem nodup_inj {α : Type} : ∀ (M : List α), (∀ (i j : Nat) (a : α), i < j → M[i]? = some a → M[j]? = some a → False) → M.Nodup := by
  intro M
  induction M with
  | nil => intro _; exact List.nodup_nil
  | cons x M ih =>
    intro h
    rw [List.nodup_cons]
    refine ⟨fun hx => ?_, ih (fun i j a hij h1 h2 => h (i + 1) (j + 1) a (by omega) (by simpa using h1) (by simpa using h2))⟩
    obtain ⟨k, hk⟩ := mem_get hx
    exact h 0 (k + 1) x (by omega) (by simp) (by simpa using hk)
/-- a loan gets another piece and amount -/
theorem set_ok {p' : Nat → Nat} {F' : Nat → Bool} {l am a' : Nat} {q : Nat × Nat × Nat} {b1 : BD} {g0 g2 : Nat → Int32} (B : BG p F L W w b g0) (hq : L[l]? = some q) (h1 : 1 ≤ am) (h2 : am ≤ 64) (T : TI p' F') (ha : a' < 64) (hp : p' a' = nd am)
    (hocc : ∀ u, u < 64 → ((p' u ≠ 0 ∧ F' u = false) ↔ u = a' ∨ (u ≠ q.2.2 ∧ p u ≠ 0 ∧ F u = false))) (hkeep : ∀ u, u < 64 → u ≠ q.2.2 → p u ≠ 0 → F u = false → p' u = p u) (hnew : ¬ (a' ≠ q.2.2 ∧ p a' ≠ 0 ∧ F a' = false))
    (RB : RC p' F' b1) (s0 : b1.1 0 = b.1 0) (s3 : b1.1 3 = b.1 3) (s4 : b1.1 4 = b.1 4) (sA : ∀ i, ¬ i = 0 → b1.2 i = b.2 i)
    (RG : ∀ u, u < 64 → g2 u = nI (p' u)) (t126 : g2 126 = g0 126) (t64 : g2 64 = g0 64) (t113 : g2 113 = g0 113) (tn : ∀ t, t < 16 → g2 (65 + t) = g0 (65 + t)) (ta : ∀ t, t < 16 → g2 (81 + t) = if t = l then nI am else g0 (81 + t)) (ts : ∀ t, t < 16 → g2 (97 + t) = if t = l then nI a' else g0 (97 + t)) (tw1 : ∀ t, t < 6 → g2 (114 + t) = g0 (114 + t)) (tw2 : ∀ t, t < 6 → g2 (120 + t) = g0 (120 + t))
    (e1 : b1.1 1 = g2 127) (e2 : b1.1 2 = g2 128) : BG p' F' (L.set l (q.1, am, a')) W w (u_X3_put b1 (nI l) (nI am) (nI a') (nI (nd am))) g2 := by
  obtain ⟨S, B, G, hv1, hv2⟩ := B
  obtain ⟨c1, c2, c3, c4, c5, c6, c7, c8⟩ := S
  obtain ⟨b1', b2, b3, b4, b5, b6⟩ := B
  obtain ⟨k1, k2, k3, k4, k5, k6⟩ := G
  have hl := get_lt hq
  have hlen : (L.set l (q.1, am, a')).length = L.length := List.length_set
  obtain ⟨u1, u2⟩ := put_prj (b := b1) (n := L.length) (l := l) (am := nI am) (st := nI a') (sz := nI (nd am)) c5 (by rw [s3, b3]) hl
  have hq4 := c4 q (get_mem hq)
  have hother : ∀ t r, ¬ t = l → L[t]? = some r → ¬ r.2.2 = q.2.2 := fun t r ht hr e => ht (nodup_at c3 hr hq e)
  have hocc2 : ∀ r, r ∈ L → p r.2.2 ≠ 0 ∧ F r.2.2 = false := fun r hr => (c2 _ (c4 r hr).2.2.2.1).mpr ⟨r, hr, rfl⟩
  have hmem : ∀ r, r ∈ L.set l (q.1, am, a') → r = (q.1, am, a') ∨ (r ∈ L ∧ ¬ r.2.2 = q.2.2) := by
    intro r hr
    obtain ⟨t, ht⟩ := mem_get hr
    rcases get_set ht with ⟨-, h⟩ | ⟨h, h3⟩
    · exact Or.inl h
    · exact Or.inr ⟨get_mem h3, hother t r h h3⟩
  refine ⟨⟨T, fun u hu => ?_, ?_, fun r hr => ?_, by omega, c6, c7, c8⟩, ⟨fun u hu => ?_, ?_, ?_, ?_, fun t r hr => ?_, fun t r hr => ?_⟩, ⟨RG, ?_, ?_, ?_, fun t r hr => ?_, fun t r hr => ?_⟩, ?_, ?_⟩
  · rw [hocc u hu]
    constructor
    · rintro (h | ⟨h3, h4⟩)
      · refine ⟨(q.1, am, a'), List.mem_of_getElem? (i := l) ?_, h.symm⟩
        rw [List.getElem?_set_self hl]
      · obtain ⟨r, hr, rfl⟩ := (c2 u hu).mp h4
        obtain ⟨t, ht⟩ := mem_get hr
        have : ¬ t = l := fun z => by rw [z, hq] at ht; exact h3 (by rw [Option.some.inj ht])
        refine ⟨r, List.mem_of_getElem? (i := t) ?_, rfl⟩
        rw [List.getElem?_set_ne (Ne.symm this)]; exact ht
    · rintro ⟨r, hr, rfl⟩
      rcases hmem r hr with rfl | ⟨h3, h4⟩
      · exact Or.inl rfl
      · exact Or.inr ⟨h4, hocc2 r h3⟩
  · refine nodup_inj _ (fun i j a hij hi hj => ?_)
    rw [List.getElem?_map] at hi hj
    cases hr1 : (L.set l (q.1, am, a'))[i]? with
    | none => rw [hr1] at hi; cases hi
    | some r1 =>
    cases hr2 : (L.set l (q.1, am, a'))[j]? with
    | none => rw [hr2] at hj; cases hj
    | some r2 =>
    rw [hr1] at hi
    rw [hr2] at hj
    have e' : r1.2.2 = r2.2.2 := by
      have e1 : r1.2.2 = a := by simpa using hi
      have e2 : r2.2.2 = a := by simpa using hj
      rw [e1, e2]
    rcases get_set hr1 with ⟨x1, y1⟩ | ⟨x1, y1⟩ <;> rcases get_set hr2 with ⟨x2, y2⟩ | ⟨x2, y2⟩
    · omega
    · rw [y1] at e'
      have e3 : a' = r2.2.2 := e'
      exact hnew ⟨by rw [e3]; exact hother j r2 x2 y2, by rw [e3]; exact hocc2 r2 (get_mem y2)⟩
    · rw [y2] at e'
      have e3 : r1.2.2 = a' := e'
      exact hnew ⟨by rw [← e3]; exact hother i r1 x1 y1, by rw [← e3]; exact hocc2 r1 (get_mem y1)⟩
    · have := nodup_at c3 y1 y2 e'
      omega
  · rcases hmem r hr with rfl | ⟨h3, h4⟩
    · exact ⟨hq4.1, h1, h2, ha, hp⟩
    · have h5 := c4 r h3
      obtain ⟨h6, h7⟩ := hocc2 r h3
      rw [hkeep _ h5.2.2.2.1 h4 h6 h7]
      exact h5
  · rw [u2, up_ne (by decide), up_ne (by decide), up_ne (by decide)]; exact RB u hu
  · rw [u1, s0, b2]
  · rw [u1, s3, b3, hlen]
  · rw [u1, s4, b4]
  · have z1 : (u_X3_put b1 (nI l) (nI am) (nI a') (nI (nd am))).2 1 = b.2 1 := by rw [u2, up_ne (by decide), up_ne (by decide), up_ne (by decide), sA 1 (by decide)]
    have z2 : (u_X3_put b1 (nI l) (nI am) (nI a') (nI (nd am))).2 2 = up (b.2 2) l (nI am) := by rw [u2, up_ne (by decide), up_ne (by decide), up_self, sA 2 (by decide)]
    have z3 : (u_X3_put b1 (nI l) (nI am) (nI a') (nI (nd am))).2 3 = up (b.2 3) l (nI a') := by rw [u2, up_ne (by decide), up_self, sA 3 (by decide)]
    have z4 : (u_X3_put b1 (nI l) (nI am) (nI a') (nI (nd am))).2 4 = up (b.2 4) l (nI (nd am)) := by rw [u2, up_self, sA 4 (by decide)]
    rw [z1, z2, z3, z4]
    rcases get_set hr with ⟨rfl, rfl⟩ | ⟨h, h3⟩
    · rw [up_self, up_self, up_self]
      exact ⟨(b5 t q hq).1, rfl, rfl, rfl⟩
    · rw [up_ne h, up_ne h, up_ne h]; exact b5 t r h3
  · rw [u2, up_ne (show ¬ 5 = 4 by decide), up_ne (show ¬ 5 = 3 by decide), up_ne (show ¬ 5 = 2 by decide), up_ne (show ¬ 6 = 4 by decide), up_ne (show ¬ 6 = 3 by decide), up_ne (show ¬ 6 = 2 by decide), sA 5 (by decide), sA 6 (by decide)]; exact b6 t r hr
  · rw [t126]; exact k2
  · rw [t64, hlen]; exact k3
  · rw [t113]; exact k4
  · have ht := get_lt hr
    rw [hlen] at ht
    rw [tn t (by omega), ta t (by omega), ts t (by omega)]
    rcases get_set hr with ⟨rfl, rfl⟩ | ⟨h, h3⟩
    · rw [if_pos rfl, if_pos rfl]
      exact ⟨(k5 t q hq).1, rfl, rfl⟩
    · rw [if_neg h, if_neg h]; exact k5 t r h3
  · have ht := get_lt hr
    rw [tw1 t (by omega), tw2 t (by omega)]; exact k6 t r hr
  · rw [u1]; exact e1
  · rw [u1]; exact e2
end
