/-! ===== p36: what every board of a built state keeps ===== -/
def NV (v : Int32) : Prop := ¬ v = 77
def IB (b : BD) : Prop := (∃ n, n ≤ 16 ∧ b.1 3 = nI n) ∧ (∃ m, m ≤ 6 ∧ b.1 4 = nI m) ∧ (∃ w, w < 3 ∧ b.1 0 = nI w) ∧ (∀ i, NV (b.2 1 i)) ∧ ∀ i, NV (b.2 5 i)
/-- the pieces, halvings, joinings, amounts and starts may differ, nothing else -/
def PX (b b' : BD) : Prop := b'.1 0 = b.1 0 ∧ b'.1 3 = b.1 3 ∧ b'.1 4 = b.1 4 ∧ b'.2 1 = b.2 1 ∧ b'.2 5 = b.2 5
theorem PX.rf {b : BD} : PX b b := ⟨rfl, rfl, rfl, rfl, rfl⟩
theorem PX.tr {a b c : BD} (h : PX a b) (h' : PX b c) : PX a c := ⟨h'.1.trans h.1, h'.2.1.trans h.2.1, h'.2.2.1.trans h.2.2.1, h'.2.2.2.1.trans h.2.2.2.1, h'.2.2.2.2.trans h.2.2.2.2⟩
theorem IB.px {b b' : BD} (h : PX b b') (hI : IB b) : IB b' := by
  obtain ⟨h1, h2, h3, h4, h5⟩ := h
  unfold IB
  rw [h1, h2, h3, h4, h5]
  exact hI
theorem px_set (b : BD) (s z : Int32) : PX b (u_X5_setSize b s z) := by
  unfold u_X5_setSize
  split
  · exact PX.rf
  · split
    · exact PX.rf
    · exact ⟨rfl, rfl, rfl, rfl, rfl⟩
theorem px_1 (b : BD) (v : Int32) : PX b (bS b 1 v) := ⟨rfl, rfl, rfl, rfl, rfl⟩
theorem px_2 (b : BD) (v : Int32) : PX b (bS b 2 v) := ⟨rfl, rfl, rfl, rfl, rfl⟩
theorem px_lcut (need : Int32) : ∀ (j : Nat) (x y : Int32) (b : BD) (r : Int32 × Int32 × BD), lp_X5_cutDown_8 need j x y b = some r → PX b r.2.2
  | 0, _, _, _, _, h => by cases h
  | j + 1, x, y, b, r, h => by
    unfold lp_X5_cutDown_8 at h
    split at h
    · cases h; exact PX.rf
    · split at h
      · cases h; exact PX.rf
      · split at h
        · exact ((px_1 _ _).tr (px_set _ _ _)).tr (px_lcut need j _ _ _ _ h)
        · exact ((px_1 _ _).tr (px_set _ _ _)).tr (px_lcut need j _ _ _ _ h)
theorem px_cut (b : BD) (x y z : Int32) : PX b (u_X5_cutDown b x y z) := by
  unfold u_X5_cutDown
  cases h : lp_X5_cutDown_8 z 64 x (y / 2) b with
  | none => exact absurd h (cutDown_ne _ _ _ _)
  | some r => exact px_lcut _ _ _ _ _ _ h
theorem px_take (b : BD) (z : Int32) : PX b (u_X5_take b z) := by
  unfold u_X5_take
  split
  · exact (px_set _ _ _).tr (px_cut _ _ _ _)
  · exact PX.rf
theorem px_lrel (b0 : BD) (s z : Int32) : ∀ (j : Nat) (x : Int32) (b : BD) (r : Int32 × BD), lp_X5_release_10 b0 s z j x b = some r → PX b r.2
  | 0, _, _, _, h => by cases h
  | j + 1, x, b, r, h => by
    unfold lp_X5_release_10 at h
    split at h
    · cases h; exact PX.rf
    · split at h
      · cases h; exact PX.rf
      · exact ((px_set _ _ _).tr (px_2 _ _)).tr (px_lrel b0 s z j _ _ _ h)
theorem px_rel (b : BD) (s z : Int32) : PX b (u_X5_release b s z) := by
  unfold u_X5_release
  refine PX.tr ?_ (px_set _ _ _)
  cases h : lp_X5_release_10 b s z 64 z b with
  | none => exact absurd h (release_ne _ _ _ _ _)
  | some r => exact px_lrel _ _ _ _ _ _ _ h
theorem px_put (b : BD) (l a s z : Int32) : PX b (u_X3_put b l a s z) := by
  unfold u_X3_put
  split
  · exact PX.rf
  · exact ⟨rfl, rfl, rfl, rfl, rfl⟩
theorem nv_up {f : Nat → Int32} {k : Nat} {v : Int32} (h : ∀ i, NV (f i)) (hv : NV v) : ∀ i, NV (up f k v i) := by
  intro i
  unfold up
  split
  · exact hv
  · exact h i
theorem ib_add {b : BD} (hI : IB b) (name a s z : Int32) (hn : NV name) : IB (u_X3_add b name a s z) := by
  unfold u_X3_add
  split
  · exact hI
  · split
    · exact hI
    · split
      · rename_i h16
        refine IB.px (px_put _ _ _ _ _) ?_
        obtain ⟨⟨n, h1, h2⟩, h3, h4, h5, h6⟩ := hI
        have hn16 : n < 16 := by
          rw [h2] at h16
          exact (nI_ltI (by omega) (by decide)).mp h16
        exact ⟨⟨n + 1, hn16, by show b.1 3 + 1 = _; rw [h2, nI_1]⟩, h3, h4, nv_up h5 hn, h6⟩
      · exact hI
theorem ib_lendTo {b : BD} (hI : IB b) (name a : Int32) (hn : NV name) : IB (u_X0_lendTo b name a) := ib_add (hI.px (px_take _ _)) _ _ _ _ hn
theorem lrem3 : ∀ (j i : Nat) (b : BD), (∀ q, NV (b.2 1 q)) → (∀ q, NV ((lp_X3_remove_11 j i b).2 1 q)) ∧ (lp_X3_remove_11 j i b).1 = b.1 ∧ (lp_X3_remove_11 j i b).2 5 = b.2 5
  | 0, _, _, h => ⟨h, rfl, rfl⟩
  | j + 1, i, b, h => by
    unfold lp_X3_remove_11
    split
    · exact ⟨h, rfl, rfl⟩
    · obtain ⟨h1, h2, h3⟩ := lrem3 j (i + 1) (bA (bA (bA (bA b 1 (up (b.2 1) i ((b.2 1) (i + 1)))) 2 (up (b.2 2) i ((b.2 2) (i + 1)))) 3 (up (b.2 3) i ((b.2 3) (i + 1)))) 4 (up (b.2 4) i ((b.2 4) (i + 1)))) (nv_up h (h _))
      exact ⟨h1, h2, h3⟩
theorem has3_n {b : BD} {l : Int32} {n : Nat} (hn : b.1 3 = nI n) (h : ¬ r_X3_has b l = 0) : 0 < n := by
  unfold r_X3_has at h
  by_cases h1 : l < 0
  · rw [if_pos h1] at h; exact absurd rfl h
  · rw [if_neg h1] at h
    by_cases h2 : b.1 3 ≤ l
    · rw [if_pos h2] at h; exact absurd rfl h
    · refine Nat.pos_of_ne_zero (fun h3 => h2 ?_)
      rw [hn, h3]
      exact Int32.not_lt.mp h1
theorem has6_n {b : BD} {l : Int32} {n : Nat} (hn : b.1 4 = nI n) (h : ¬ r_X6_has b l = 0) : 0 < n := by
  unfold r_X6_has at h
  by_cases h1 : l < 0
  · rw [if_pos h1] at h; exact absurd rfl h
  · rw [if_neg h1] at h
    by_cases h2 : b.1 4 ≤ l
    · rw [if_pos h2] at h; exact absurd rfl h
    · refine Nat.pos_of_ne_zero (fun h3 => h2 ?_)
      rw [hn, h3]
      exact Int32.not_lt.mp h1
theorem nI_pd {n : Nat} (h : 0 < n) : nI n - 1 = nI (n - 1) := pk_sub (b := 1) h
theorem ib_rem3 {b : BD} (hI : IB b) (l : Int32) : IB (u_X3_remove b l) := by
  unfold u_X3_remove
  split
  · exact hI
  · rename_i hh
    obtain ⟨⟨n, h1, h2⟩, h3, h4, h5, h6⟩ := hI
    obtain ⟨g1, g2, g3⟩ := lrem3 (15 - l.toNatClampNeg) l.toNatClampNeg b h5
    have hp := has3_n h2 hh
    refine ⟨⟨n - 1, by omega, ?_⟩, ?_, ?_, g1, fun i => by show NV ((lp_X3_remove_11 _ _ b).2 5 i); rw [g3]; exact h6 i⟩
    · show (lp_X3_remove_11 _ _ b).1 3 - 1 = _
      rw [g2, h2, nI_pd hp]
    · obtain ⟨m, q1, q2⟩ := h3
      exact ⟨m, q1, by show (lp_X3_remove_11 _ _ b).1 4 = _; rw [g2, q2]⟩
    · obtain ⟨m, q1, q2⟩ := h4
      exact ⟨m, q1, by show (lp_X3_remove_11 _ _ b).1 0 = _; rw [g2, q2]⟩
theorem lrem6 : ∀ (j i : Nat) (b : BD), (∀ q, NV (b.2 5 q)) → (∀ q, NV ((lp_X6_remove_11 j i b).2 5 q)) ∧ (lp_X6_remove_11 j i b).1 = b.1 ∧ (lp_X6_remove_11 j i b).2 1 = b.2 1
  | 0, _, _, h => ⟨h, rfl, rfl⟩
  | j + 1, i, b, h => by
    unfold lp_X6_remove_11
    split
    · exact ⟨h, rfl, rfl⟩
    · obtain ⟨h1, h2, h3⟩ := lrem6 j (i + 1) (bA (bA b 5 (up (b.2 5) i ((b.2 5) (i + 1)))) 6 (up (b.2 6) i ((b.2 6) (i + 1)))) (nv_up h (h _))
      exact ⟨h1, h2, h3⟩
theorem ib_rem6 {b : BD} (hI : IB b) (l : Int32) : IB (u_X6_remove b l) := by
  unfold u_X6_remove
  split
  · exact hI
  · rename_i hh
    obtain ⟨h3, ⟨n, h1, h2⟩, h4, h5, h6⟩ := hI
    obtain ⟨g1, g2, g3⟩ := lrem6 (5 - l.toNatClampNeg) l.toNatClampNeg b h6
    have hp := has6_n h2 hh
    refine ⟨?_, ⟨n - 1, by omega, ?_⟩, ?_, fun i => by show NV ((lp_X6_remove_11 _ _ b).2 1 i); rw [g3]; exact h5 i, g1⟩
    · obtain ⟨m, q1, q2⟩ := h3
      exact ⟨m, q1, by show (lp_X6_remove_11 _ _ b).1 3 = _; rw [g2, q2]⟩
    · show (lp_X6_remove_11 _ _ b).1 4 - 1 = _
      rw [g2, h2, nI_pd hp]
    · obtain ⟨m, q1, q2⟩ := h4
      exact ⟨m, q1, by show (lp_X6_remove_11 _ _ b).1 0 = _; rw [g2, q2]⟩
theorem nv_name6 {b : BD} (hI : IB b) (p : Int32) : NV (r_X6_nameAt b p) := by
  unfold r_X6_nameAt
  split
  · show ¬ (-1 : Int32) = 77
    decide
  · exact hI.2.2.2.2 _
theorem ib_lserve : ∀ (j i : Nat) (a : Int32) (b : BD), IB b → IB (lp_X0_serveWaiting_12 j i a b).2
  | 0, _, _, _, h => h
  | j + 1, i, a, b, h => by
    unfold lp_X0_serveWaiting_12
    split
    · exact ib_lserve j _ _ _ h
    · exact ib_lserve j _ _ _ (ib_rem6 (ib_lendTo h _ _ (nv_name6 h _)) _)
theorem ib_serve {b : BD} (hI : IB b) : IB (u_X0_serveWaiting b) := ib_lserve _ _ _ _ hI
theorem ib_relL {b : BD} (hI : IB b) (l : Int32) : IB (u_X0_releaseLoan b l) := (ib_rem3 hI l).px (px_rel _ _ _)
theorem ib_give {b : BD} (hI : IB b) (l : Int32) : IB (u_X0_giveBack b l) := ib_serve (ib_relL hI l)
theorem ib_lgall (name : Int32) : ∀ (j : Nat) (x y : Int32) (b : BD) (r : Int32 × Int32 × BD), IB b → lp_X0_giveBackAll_12 name j x y b = some r → IB r.2.2
  | 0, _, _, _, _, _, h => by cases h
  | j + 1, x, y, b, r, hI, h => by
    unfold lp_X0_giveBackAll_12 at h
    split at h
    · cases h; exact hI
    · split at h
      · exact ib_lgall name j _ _ _ _ (ib_relL hI _) h
      · exact ib_lgall name j _ _ _ _ hI h
theorem ib_gall {b : BD} (hI : IB b) (name : Int32) : IB (u_X0_giveBackAll b name) := by
  unfold u_X0_giveBackAll
  refine ib_serve ?_
  cases h : lp_X0_giveBackAll_12 name bigF 0 (b.1 3 - 1) b with
  | none => exact absurd h (giveBackAll_ne _ _ _ _)
  | some r => exact ib_lgall _ _ _ _ _ _ hI h
theorem ite_P {α : Type} {P : α → Prop} {c : Prop} [Decidable c] {x y : α} (h1 : P x) (h2 : P y) : P (if c then x else y) := by
  split
  · exact h1
  · exact h2
theorem ib_chg {b : BD} (hI : IB b) (l a : Int32) : IB (u_X0_changeAmount b l a) := by
  have p1 : ∀ (s z : Int32), IB (u_X3_put b l a s z) := fun s z => hI.px (px_put _ _ _ _ _)
  have p2 : ∀ (s z x y u : Int32), IB (u_X3_put (u_X5_take (u_X5_release b s z) x) l a y u) := fun s z x y u => hI.px (((px_rel _ _ _).tr (px_take _ _)).tr (px_put _ _ _ _ _))
  have p3 : ∀ (s z x y u : Int32), IB (u_X3_put (u_X5_cutDown b s z x) l a y u) := fun s z x y u => hI.px ((px_cut _ _ _ _).tr (px_put _ _ _ _ _))
  have p4 : ∀ (s z x y u v w q : Int32), IB (u_X3_put (u_X5_take (u_X5_release (u_X5_cutDown b s z x) v w) q) l a y u) := fun s z x y u v w q => hI.px ((((px_cut _ _ _ _).tr (px_rel _ _ _)).tr (px_take _ _)).tr (px_put _ _ _ _ _))
  unfold u_X0_changeAmount
  exact ite_P (ite_P (ite_P (p1 _ _) (ib_serve (p1 _ _))) (ite_P (p2 _ _ _ _ _) (ib_serve (p2 _ _ _ _ _)))) (ite_P (ite_P (p3 _ _ _ _ _) (ib_serve (p3 _ _ _ _ _))) (ite_P (p4 _ _ _ _ _ _ _ _) (ib_serve (p4 _ _ _ _ _ _ _ _))))
theorem ib_way {b : BD} (hI : IB b) {w : Nat} (hw : w < 3) : IB (u_X0_changeWay b (nI w)) := by
  refine ib_serve ?_
  obtain ⟨h1, h2, h3, h4, h5⟩ := hI
  exact ⟨h1, h2, ⟨w, hw, rfl⟩, h4, h5⟩
theorem ib_add6 {b : BD} (hI : IB b) (name a : Int32) (hn : NV name) : IB (u_X6_add b name a) := by
  unfold u_X6_add
  split
  · exact hI
  · split
    · exact hI
    · rename_i h6
      obtain ⟨h1, ⟨m, h2, h3⟩, h4, h5, h7⟩ := hI
      have hm6 : m < 6 := by
        rw [h3] at h6
        exact Nat.lt_of_not_le (fun h => h6 (nI_le (a := 6) h (by omega)))
      exact ⟨h1, ⟨m + 1, hm6, by show b.1 4 + 1 = _; rw [h3, nI_1]⟩, h4, h5, nv_up h7 hn⟩
theorem ib_loq {b : BD} (hI : IB b) (name a : Int32) (hn : NV name) : IB (u_X0_lendOrQueue b name a) := by
  unfold u_X0_lendOrQueue
  split
  · exact ib_add6 hI _ _ hn
  · exact ib_lendTo hI _ _ hn
/-- the counts of a state's history -/
def IHs (X : GS) : Prop := ∃ n c, n < 8 ∧ c ≤ 8 ∧ X.2.1 0 = nI n ∧ X.2.1 1 = nI c
/-- what a state that is built keeps: the board, the history, no orders' text, no signs -/
def IX (X : GS) : Prop := IB (X.1 0) ∧ IHs X ∧ X.2.1 4 = 0 ∧ X.2.1 6 = 0
theorem IHs.okI {X : GS} (h : IHs X) : okI (X.2.1 0) := by
  obtain ⟨n, c, h1, h2, h3, h4⟩ := h
  rw [h3]
  exact ⟨nI_pos (by omega), nI_lt8 h1⟩
theorem nx_of {X : GS} {n : Nat} (h : X.2.1 0 = nI n) (hn : n < 8) : nx X = n := by
  unfold nx
  rw [h, nI_clamp (by omega)]
theorem keep0_eq {X : GS} {n c : Nat} (b : BD) (h : X.2.1 0 = nI n) (hn : n < 8) (h2 : X.2.1 1 = nI c) (hc : c ≤ 8) :
    x_X1_keep0 X b = uS (uS (uB X (3 + n) (cpB b (X.1 (3 + n)))) 0 (nI ((n + 1) % 8))) 1 (nI (if c < 8 then c + 1 else 8)) := by
  have e1 : nx X = n := nx_of h hn
  unfold x_X1_keep0
  rw [e1]
  show (if 8 ≤ X.2.1 0 + 1 then (uS (uS (uB X (3 + n) (cpB b (X.1 (3 + n)))) 0 0) 1 (if 8 < X.2.1 1 + 1 then 8 else X.2.1 1 + 1)) else (uS (uS (uB X (3 + n) (cpB b (X.1 (3 + n)))) 0 (X.2.1 0 + 1)) 1 (if 8 < X.2.1 1 + 1 then 8 else X.2.1 1 + 1))) = _
  have e2 : (if 8 < X.2.1 1 + 1 then 8 else X.2.1 1 + 1) = nI (if c < 8 then c + 1 else 8) := by
    rw [h2, nI_1]
    by_cases h8 : c < 8
    · have q : ¬ (8 : Int32) < nI (c + 1) := nI_nlt (a := 8) (b := c + 1) (by omega) (by omega)
      rw [if_neg q, if_pos h8]
    · have q : (8 : Int32) < nI (c + 1) := nI_lt (a := 8) (b := c + 1) (by omega) (by omega)
      rw [if_pos q, if_neg h8]; rfl
  rw [e2, h, nI_1]
  by_cases h7 : n + 1 < 8
  · have q : ¬ (8 : Int32) ≤ nI (n + 1) := fun hh => absurd ((nI_leI (a := 8) (b := n + 1) (by decide) (by omega)).mp hh) (by omega)
    rw [if_neg q, Nat.mod_eq_of_lt h7]
  · have q : (8 : Int32) ≤ nI (n + 1) := nI_le (a := 8) (b := n + 1) (by omega) (by omega)
    rw [if_pos q, show n + 1 = 8 by omega]; rfl
theorem ix_keep {X : GS} (h : IX X) (b : BD) : IHs (x_X1_keep0 X b) ∧ (x_X1_keep0 X b).2.1 4 = 0 ∧ (x_X1_keep0 X b).2.1 6 = 0 := by
  obtain ⟨-, ⟨n, c, h1, h2, h3, h4⟩, h5⟩ := h
  rw [keep0_eq b h3 h1 h4 h2]
  exact ⟨⟨(n + 1) % 8, if c < 8 then c + 1 else 8, Nat.mod_lt _ (by decide), by split <;> omega, rfl, rfl⟩, h5⟩
/-- a refusal's reason is all that a judge may change -/
def RS (X X' : GS) : Prop := X'.1 = X.1 ∧ (∀ k, ¬ k = 9 → ¬ k = 10 → X'.2.1 k = X.2.1 k) ∧ X'.2.2 = X.2.2
theorem RS.rf {X : GS} : RS X X := ⟨rfl, fun _ _ _ => rfl, rfl⟩
theorem rs_ref (X : GS) (r d : Int32) : RS X (x_X7_refuse X r d) := ⟨rfl, fun k h1 h2 => by
  show up (up X.2.1 9 r) 10 d k = _
  rw [up_ne h2, up_ne h1], rfl⟩
theorem rs_jl (X : GS) (b : BD) (x y : Int32) : RS X (x_X7_judgeLend X b x y) := ite_P RS.rf (ite_P RS.rf (ite_P (ite_P RS.rf (rs_ref _ _ _)) (rs_ref _ _ _)))
theorem rs_ja (X : GS) (b : BD) (x y : Int32) : RS X (x_X7_judgeAsk X b x y) := ite_P RS.rf (ite_P RS.rf (ite_P (ite_P RS.rf (rs_ref _ _ _)) RS.rf))
theorem rs_jg (X : GS) (b : BD) (x : Int32) : RS X (x_X7_judgeGiveAll X b x) := ite_P RS.rf (ite_P (rs_ref _ _ _) RS.rf)
theorem rs_jr (X : GS) (b : BD) (x y : Int32) : RS X (x_X7_judgeResize X b x y) := ite_P RS.rf (ite_P RS.rf (ite_P (rs_ref _ _ _) (ite_P RS.rf (rs_ref _ _ _))))
theorem rs_jw (X : GS) (b : BD) (x : Int32) : RS X (x_X7_judgeWay X b x) := ite_P RS.rf (ite_P (ite_P (rs_ref _ _ _) RS.rf) RS.rf)
theorem ix_rs {X X' : GS} (h : RS X X') (hI : IX X) : IX X' := by
  obtain ⟨h1, h2, h3⟩ := h
  obtain ⟨i1, ⟨n, c, i2, i3, i4, i5⟩, i6⟩ := hI
  exact ⟨by rw [h1]; exact i1, ⟨n, c, i2, i3, by rw [h2 0 (by decide) (by decide)]; exact i4, by rw [h2 1 (by decide) (by decide)]; exact i5⟩, by rw [h2 4 (by decide) (by decide)]; exact i6.1, by rw [h2 6 (by decide) (by decide)]; exact i6.2⟩
theorem uB_s {X : GS} {j : Nat} {b : BD} : (uB X j b).1 j = b := up_self
/-- after one call that changes, or not -/
theorem ix_op {X X' : GS} {b' : BD} (hI : IX X) (hr : RS X X') (hb : IB b') {c : Prop} [Decidable c] : IX (uB (if c then x_X1_keep0 X' (X.1 0) else X') 0 (if c then b' else X.1 0)) := by
  have hI' := ix_rs hr hI
  by_cases hc : c
  · rw [if_pos hc, if_pos hc]
    obtain ⟨k1, k2⟩ := ix_keep hI' (X.1 0)
    exact ⟨by rw [uB_s]; exact hb, k1, k2⟩
  · rw [if_neg hc, if_neg hc]
    exact ⟨by rw [uB_s]; exact hI.1, hI'.2.1, hI'.2.2⟩
theorem ix_lend {X : GS} (h : IX X) (x y : Int32) (hx : NV x) : IX (sLend X x y) := ix_op h (rs_jl _ _ _ _) (ib_lendTo h.1 _ _ hx)
theorem ix_ask {X : GS} (h : IX X) (x y : Int32) (hx : NV x) : IX (sAsk X x y) := ix_op h (rs_ja _ _ _ _) (ib_loq h.1 _ _ hx)
theorem ix_give {X : GS} (h : IX X) (x : Int32) : IX (sGive X x) := ix_op h RS.rf (ib_give h.1 _)
theorem ix_giveAll {X : GS} (h : IX X) (x : Int32) : IX (sGiveAll X x) := ix_op h (rs_jg _ _ _) (ib_gall h.1 _)
theorem ix_resize {X : GS} (h : IX X) (x y : Int32) : IX (sResize X x y) := ix_op h (rs_jr _ _ _ _) (ib_chg h.1 _ _)
theorem ix_way {X : GS} (h : IX X) {w : Nat} (hw : w < 3) : IX (sWay X (nI w)) := ix_op h (rs_jw _ _ _) (ib_way h.1 hw)
theorem ix_forget {X : GS} (h : IX X) (x : Int32) : IX (sForget X x) := by
  show IX (uB (if r_X6_has (X.1 0) x = 0 then X else x_X1_keep0 X (X.1 0)) 0 (if r_X6_has (X.1 0) x = 0 then X.1 0 else u_X6_remove (X.1 0) x))
  by_cases hc : r_X6_has (X.1 0) x = 0
  · rw [if_pos hc, if_pos hc, uB_eta]; exact h
  · rw [if_neg hc, if_neg hc]
    obtain ⟨k1, k2⟩ := ix_keep h (X.1 0)
    exact ⟨by rw [uB_s]; exact ib_rem6 h.1 _, k1, k2⟩
theorem ix_act {X : GS} (h : IX X) (w a b : Int32) (ha : NV a) (hw : w = 5 → ∃ q, q < 3 ∧ a = nI q) : IX (pAct X w a b).2 := by
  unfold pAct
  by_cases h0 : w = 0
  · rw [if_pos h0]; exact ix_lend h _ _ ha
  rw [if_neg h0]
  by_cases h1 : w = 1
  · rw [if_pos h1]; exact ix_ask h _ _ ha
  rw [if_neg h1]
  by_cases h2 : w = 2
  · rw [if_pos h2]; exact ix_give h _
  rw [if_neg h2]
  by_cases h3 : w = 3
  · rw [if_pos h3]; exact ix_giveAll h _
  rw [if_neg h3]
  by_cases h4 : w = 4
  · rw [if_pos h4]; exact ix_resize h _ _
  rw [if_neg h4]
  by_cases h5 : w = 5
  · rw [if_pos h5]
    obtain ⟨q, q1, q2⟩ := hw h5
    rw [q2]
    exact ix_way h q1
  rw [if_neg h5]
  exact ix_forget h _
theorem nv_and (x m : Int32) (h : ¬ (77 : Int32) &&& m = 77) : NV (x &&& m) := fun h1 => h (by
  have h2 : (x &&& m) &&& m = x &&& m := by rw [Int32.and_assoc, Int32.and_self]
  rw [h1] at h2
  exact h2)
theorem and3 (x : Int32) : x &&& 3 = nI 0 ∨ x &&& 3 = nI 1 ∨ x &&& 3 = nI 2 ∨ x &&& 3 = nI 3 := by
  have h1 : (x.toUInt32 &&& 3).toNat ≤ 3 := by rw [UInt32.toNat_and]; exact Nat.and_le_right
  have h2 : x &&& 3 = (x.toUInt32 &&& 3).toInt32 := rfl
  have h3 : (x.toUInt32 &&& 3) = UInt32.ofNat (x.toUInt32 &&& 3).toNat := (UInt32.ofNat_toNat).symm
  rw [h2, h3]
  generalize (x.toUInt32 &&& 3).toNat = n at h1
  rcases (show n = 0 ∨ n = 1 ∨ n = 2 ∨ n = 3 by omega) with rfl | rfl | rfl | rfl
  · exact Or.inl (by decide)
  · exact Or.inr (Or.inl (by decide))
  · exact Or.inr (Or.inr (Or.inl (by decide)))
  · exact Or.inr (Or.inr (Or.inr (by decide)))
theorem rem3_3 (x : Int32) : ∃ q, q < 3 ∧ rem3 (x &&& 3) = nI q := by
  rcases and3 x with h | h | h | h <;> rw [h]
  · exact ⟨0, by decide, by decide⟩
  · exact ⟨1, by decide, by decide⟩
  · exact ⟨2, by decide, by decide⟩
  · exact ⟨0, by decide, by decide⟩
theorem nv_q {q : Nat} (h : q < 3) : NV (nI q) := by
  rcases (show q = 0 ∨ q = 1 ∨ q = 2 by omega) with rfl | rfl | rfl
  · show ¬ nI 0 = 77
    decide
  · show ¬ nI 1 = 77
    decide
  · show ¬ nI 2 = 77
    decide
theorem ix_blS {X : GS} (h : IX X) (c : Int32) : IX (blS X c) := by
  have n3 : ∀ x : Int32, NV (x &&& 3) := fun x => nv_and x 3 (by decide)
  have n7 : ∀ x : Int32, NV (x &&& 7) := fun x => nv_and x 7 (by decide)
  have h1 : IX (bl1 X c) := ix_act h _ _ _ (n3 _) (fun hh => absurd hh (by decide))
  have h2 : IX (bl2 (bl1 X c) c) := ix_act h1 _ _ _ (n3 _) (fun hh => by split at hh <;> exact absurd hh (by decide))
  have h3 : IX (bl3 (bl2 (bl1 X c) c) c) := ite_P (ix_act h2 _ _ _ (n7 _) (fun hh => absurd hh (by decide))) h2
  have h4 : IX (bl4 (bl3 (bl2 (bl1 X c) c) c) c) := ite_P (ix_act h3 _ _ _ (n7 _) (fun hh => absurd hh (by decide))) h3
  have h5 : IX (bl5 (bl4 (bl3 (bl2 (bl1 X c) c) c) c) c) := ite_P (ix_act h4 _ _ _ (n3 _) (fun hh => absurd hh (by decide))) h4
  have h6 : IX (bl6 (bl5 (bl4 (bl3 (bl2 (bl1 X c) c) c) c) c) c) := ite_P (by
    obtain ⟨q, q1, q2⟩ := rem3_3 (sh c 2)
    rw [q2]
    exact ix_act h5 _ _ _ (nv_q q1) (fun _ => ⟨q, q1, rfl⟩)) h5
  exact ite_P (ix_act h6 _ _ _ (n3 _) (fun hh => absurd hh (by decide))) h6
theorem ix_blF (at' : Nat → Int32) : ∀ (j k : Nat) (X : GS), IX X → IX (blF at' j k X)
  | 0, _, _, h => h
  | j + 1, k, X, h => ix_blF at' j (k + 1) _ (ix_blS h _)
theorem ix_gsI : IX gsI := ⟨⟨⟨0, by decide, rfl⟩, ⟨0, by decide, rfl⟩, ⟨0, by decide, rfl⟩, fun i => (by show ¬ (0 : Int32) = 77; decide), fun i => (by show ¬ (0 : Int32) = 77; decide)⟩, ⟨0, 0, by decide, by decide, rfl, rfl⟩, rfl, rfl⟩
theorem ix_bld (at' : Nat → Int32) : IX (bld at') := by
  unfold bld
  refine ix_blF at' 12 1 _ ?_
  obtain ⟨q, q1, q2⟩ := rem3_3 (at' 0)
  rw [q2]
  exact ix_act ix_gsI _ _ _ (nv_q q1) (fun _ => ⟨q, q1, rfl⟩)
