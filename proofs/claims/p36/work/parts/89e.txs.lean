/-! ===== p36: the law's texts on x ===== -/
def wr : List Int32 → Nat → (Nat → Int32) → Nat → Int32
  | [], _, f => f
  | c :: t, m, f => wr t (m + 1) (up f m (vp_nar .char c))
theorem wr_lt : ∀ (t : List Int32) (m : Nat) (f g : Nat → Int32), (∀ i, i < m → f i = g i) → ∀ i, i < m + t.length → wr t m f i = wr t m g i
  | [], _, _, _, h, i, hi => h i hi
  | c :: t, m, f, g, h, i, hi => wr_lt t (m + 1) _ _ (fun q hq => by
      unfold up
      split
      · rfl
      · exact h q (by omega)) i (by simp only [List.length_cons] at hi; omega)
theorem app_eq {X : GS} {c : Int32} {m : Nat} (h : X.2.1 4 = nI m) (hm : m < 60) : sApp X c = uS (uA X 4 (up (X.2.2.1 4) m (vp_nar .char c))) 4 (nI (m + 1)) := by
  have h1 : nI m < 60 := nI_lt (b := 60) hm (by decide)
  have h2 : ¬ nI m < 0 := nI_pos (by omega)
  have h3 : ¬ (60 : Int32) ≤ nI m := fun hh => absurd ((nI_leI (a := 60) (b := m) (by decide) (by omega)).mp hh) (by omega)
  unfold sApp x_X7_append r_X4_isFull x_X4_addSign
  rw [h, if_pos h1, if_pos rfl, if_neg h2, if_neg h3, nI_1, nI_clamp (by omega)]
  exact uB_eta
/-- what typing a text leaves -/
def FT (X X' : GS) : Prop := X'.1 = X.1 ∧ (∀ k, ¬ k = 4 → X'.2.1 k = X.2.1 k) ∧ (∀ k, ¬ k = 4 → X'.2.2.1 k = X.2.2.1 k) ∧ X'.2.2.2 = X.2.2.2
theorem typ_f : ∀ (t : List Int32) (X : GS) (m : Nat), X.2.1 4 = nI m → m + t.length ≤ 60 → FT X (typ t X) ∧ (typ t X).2.1 4 = nI (m + t.length) ∧ (typ t X).2.2.1 4 = wr t m (X.2.2.1 4)
  | [], X, m, h, _ => ⟨⟨rfl, fun _ _ => rfl, fun _ _ => rfl, rfl⟩, h, rfl⟩
  | c :: t, X, m, h, hl => by
    simp only [List.length_cons] at hl
    have e := app_eq (c := c) h (by omega)
    obtain ⟨⟨f1, f2, f3, f4⟩, g1, g2⟩ := typ_f t (sApp X c) (m + 1) (by rw [e]; rfl) (by omega)
    refine ⟨⟨?_, fun k hk => ?_, fun k hk => ?_, ?_⟩, ?_, ?_⟩
    · show (typ t (sApp X c)).1 = _
      rw [f1, e]; rfl
    · show (typ t (sApp X c)).2.1 k = _
      rw [f2 k hk, e]
      exact up_ne hk
    · show (typ t (sApp X c)).2.2.1 k = _
      rw [f3 k hk, e]
      exact up_ne hk
    · show (typ t (sApp X c)).2.2.2 = _
      rw [f4, e]; rfl
    · show (typ t (sApp X c)).2.1 4 = _
      rw [g1, List.length_cons]
      congr 1
      omega
    · show (typ t (sApp X c)).2.2.1 4 = _
      rw [g2, e]
      rfl
/-- a state with a text and nothing else -/
def YT (t : List Int32) (n6 : Int32) : GS := uS (uS (uA gs0 4 (wr t 0 (fun _ => 0))) 4 (nI t.length)) 6 n6
theorem rd_typ {t : List Int32} {X : GS} {n6 : Int32} (h4 : X.2.1 4 = 0) (h6 : X.2.1 6 = n6) (hl : t.length ≤ 60) :
    ∃ w, r_X4_read (typ t X) = r_X4_read (YT t n6) ∧ QR w (x_X4_read (typ t X)) (x_X4_read (YT t n6)) ∧ FL (typ t X) (x_X4_read (typ t X)) ∧ w ≤ 20 ∧ (x_X4_read (YT t n6)).2.1 3 = nI w := by
  obtain ⟨⟨f1, f2, f3, f4⟩, g1, g2⟩ := typ_f t X 0 h4 (by omega)
  refine q_read (by rw [g1, Nat.zero_add]; rfl) (by rw [f2 6 (by decide), h6]; rfl) (fun i hi => ?_)
  have e9 : (YT t n6).2.1 4 = nI t.length := rfl
  rw [e9, nI_clamp (by omega)] at hi
  rw [g2]
  exact wr_lt t 0 _ _ (fun q hq => absurd hq (Nat.not_lt_zero _)) i (by omega)
/-- what a run's reading leaves: the boards but the spare one, the scalars but 3 to 7 -/
def FZ (X Z : GS) (n6 e : Int32) : Prop := (∀ k, ¬ k = 1 → Z.1 k = X.1 k) ∧ (∀ k, ¬ k = 3 → ¬ k = 4 → ¬ k = 5 → ¬ k = 6 → ¬ k = 7 → Z.2.1 k = X.2.1 k) ∧ Z.2.1 4 = 0 ∧ Z.2.1 6 = n6 ∧ Z.2.1 7 = e ∧ Z.2.2.1 0 = X.2.2.1 0
/-- closed: what reading the text t gives -/
def rdK (t : List Int32) (n6 e n6' : Int32) (c : Nat) (o : List (Int32 × Int32)) : Bool :=
  decide (r_X4_read (YT t n6) = e) && (decide ((x_X4_read (YT t n6)).2.1 3 = nI c) && (decide ((x_X4_read (YT t n6)).2.1 6 = n6') && (decide (c ≤ 20) && (List.range c).all (fun i => decide ((x_X4_read (YT t n6)).2.2.1 1 i = (o.getD i (0, 0)).1) && decide ((x_X4_read (YT t n6)).2.2.1 2 i = (o.getD i (0, 0)).2)))))
theorem rd_run {t : List Int32} {X : GS} {n6 n6' e : Int32} {c : Nat} {o : List (Int32 × Int32)} (h : rdK t n6 e n6' c o = true) (h4 : X.2.1 4 = 0) (h6 : X.2.1 6 = n6) (hl : t.length ≤ 60) :
    ∃ Z, x_X4_clearText (uS (x_X4_read (typ t X)) 7 (r_X4_read (typ t X))) = Z ∧ FZ X Z n6' e ∧ Z.1 = X.1 ∧ ords Z c (fun i => o.getD i (0, 0)) := by
  simp only [rdK, Bool.and_eq_true, decide_eq_true_eq, List.all_eq_true] at h
  obtain ⟨r1, r2, r3, r4, r5⟩ := h
  obtain ⟨w, w1, w2, w3, w4, w5⟩ := rd_typ h4 h6 hl
  obtain ⟨⟨f1, f2, f3, f4⟩, -, -⟩ := typ_f t X 0 h4 (by omega)
  have hw : w = c := (nI_eq (by omega) (by omega)).mp (w5.symm.trans r2)
  subst hw
  generalize x_X4_read (typ t X) = R at w2 w3 ⊢
  generalize r_X4_read (typ t X) = rr at w1 ⊢
  generalize x_X4_read (YT t n6) = RY at w2 r2 r3 r5
  generalize r_X4_read (YT t n6) = ry at w1 r1
  refine ⟨uS (uS R 7 rr) 4 0, rfl, ⟨fun k _ => ?_, fun k a3 a4 a5 a6 a7 => ?_, rfl, ?_, ?_, ?_⟩, ?_, w4, ?_, fun i hi => ?_⟩
  · show R.1 k = X.1 k
    rw [w3.1, f1]
  · show up (up R.2.1 7 _) 4 0 k = _
    rw [up_ne a4, up_ne a7, w3.2.1 k a3 a5 a6, f2 k a4]
  · show R.2.1 6 = _
    rw [w2.2.2.2.1, r3]
  · show rr = _
    rw [w1, r1]
  · show R.2.2.1 0 = _
    rw [w3.2.2.1 0 (by decide) (by decide) (by decide), f3 0 (by decide)]
  · show R.1 = _
    rw [w3.1, f1]
  · show R.2.1 3 = _
    rw [w2.1, r2]
  · have h5 := r5 i (List.mem_range.mpr hi)
    refine ⟨?_, ?_⟩
    · show R.2.2.1 1 i = _
      rw [w2.2.2.2.2.2 1 (by decide) (by decide) i hi, h5.1]
    · show R.2.2.1 2 i = _
      rw [w2.2.2.2.2.2 2 (by decide) (by decide) i hi, h5.2]
/-- the run behind the reading -/
def runE (b : BD) (r : Option (Int32 × Int32 × BD × GS)) : Option (String × Int32 × BD × GS) := bnd4 r fun a1 _ bb XX =>
  if a1 = 0 then some ("", (x_X1_keep1 XX).2.1 3, bb, x_X1_keep1 XX) else if a1 = 3 then some ("java/lang/UnsupportedOperationException", 0, cpB (XX.1 1) bb, XX) else some ("java/lang/IllegalArgumentException", 0, cpB (XX.1 1) bb, XX)
theorem run_eq {X Z : GS} {b : BD} (hz : x_X4_clearText (uS (x_X4_read X) 7 (r_X4_read X)) = Z) (h7 : Z.2.1 7 = -1) : m_X7_run X b = runE b (lp_X7_run_51 1000 0 0 b (uB Z 1 (cpB b (Z.1 1)))) := by
  have h9 : Z.2.1 7 < 0 := by rw [h7]; decide
  unfold m_X7_run runE
  rw [hz, if_pos h9]
  cases lp_X7_run_51 1000 0 0 b (uB Z 1 (cpB b (Z.1 1))) with
  | none => rfl
  | some q =>
    obtain ⟨a1, a2, bb, XX⟩ := q
    show (if a1 = 0 then (if a1 = 3 then _ else (if a1 = 0 then _ else _)) else (if a1 = 3 then _ else (if a1 = 0 then _ else _))) = (if a1 = 0 then _ else if a1 = 3 then _ else _)
    by_cases c0 : a1 = 0
    · have c3 : ¬ a1 = 3 := by rw [c0]; decide
      simp only [if_pos c0, if_neg c3]
    · by_cases c3 : a1 = 3
      · simp only [if_neg c0, if_pos c3]
      · simp only [if_neg c0, if_neg c3]
theorem flt_eq {X Z : GS} {b : BD} (hz : x_X4_clearText (uS (x_X4_read X) 7 (r_X4_read X)) = Z) (h7 : ¬ Z.2.1 7 < 0) : m_X7_run X b = some ("java/lang/IllegalArgumentException", 0, b, Z) := by
  unfold m_X7_run
  rw [hz, if_neg h7]
/-- x between the texts: its board agrees with B0, nothing is typed, the snapshot agrees with B0 -/
def XS (B0 : BD) (n6 : Int32) (S : GS) : Prop := ag (S.1 0) B0 ∧ IHs S ∧ S.2.1 4 = 0 ∧ S.2.1 6 = n6 ∧ ag (S.1 2) B0 ∧ S.2.1 8 = 1
theorem xs_fz {B0 b' : BD} {S Z Z2 : GS} {n6 n6' e : Int32} (hS : XS B0 n6 S) (hZ : FZ S Z n6' e) (hb : ag b' B0) (h2 : Z2.1 2 = Z.1 2) (h3 : ∀ k, ¬ k = 9 → ¬ k = 10 → Z2.2.1 k = Z.2.1 k) : XS B0 n6' (uB Z2 0 b') := by
  obtain ⟨s1, ⟨n, c, s2, s3, s4, s5⟩, s6, s7, s8, s9⟩ := hS
  obtain ⟨z1, z2, z3, z4, z5, -⟩ := hZ
  have sc : ∀ k, ¬ k = 9 → ¬ k = 10 → (uB Z2 0 b').2.1 k = Z.2.1 k := h3
  refine ⟨by rw [uB_s]; exact hb, ⟨n, c, s2, s3, ?_, ?_⟩, ?_, ?_, ?_, ?_⟩
  · rw [sc 0 (by decide) (by decide), z2 0 (by decide) (by decide) (by decide) (by decide) (by decide)]; exact s4
  · rw [sc 1 (by decide) (by decide), z2 1 (by decide) (by decide) (by decide) (by decide) (by decide)]; exact s5
  · rw [sc 4 (by decide) (by decide)]; exact z3
  · rw [sc 6 (by decide) (by decide)]; exact z4
  · show ag (up Z2.1 0 b' 2) B0
    rw [up_ne (by decide), h2, z1 2 (by decide)]
    exact s8
  · rw [sc 8 (by decide) (by decide), z2 8 (by decide) (by decide) (by decide) (by decide) (by decide)]; exact s9
/-- a text that is wrong at a place -/
theorem x_flt {B0 : BD} {S : GS} {t : List Int32} {n6 n6' e : Int32} {c : Nat} {o : List (Int32 × Int32)} (hS : XS B0 n6 S) (h : rdK t n6 e n6' c o = true) (hl : t.length ≤ 60) (he : ¬ e < 0) :
    okI ((typ t S).2.1 0) ∧ (m_X7_run (typ t S) ((typ t S).1 0)).isSome = true ∧ (rnQ (typ t S)).1 = "java/lang/IllegalArgumentException" ∧ r_X7_errorPosition (rnS (typ t S)) = e ∧ XS B0 n6' (rnS (typ t S)) := by
  obtain ⟨Z, z1, z2, z3, z4⟩ := rd_run h hS.2.2.1 hS.2.2.2.1 hl
  obtain ⟨⟨f1, f2, f3, f4⟩, -, -⟩ := typ_f t S 0 hS.2.2.1 (by omega)
  have er := flt_eq (b := (typ t S).1 0) z1 (by rw [z2.2.2.2.2.1]; exact he)
  have eq : rnQ (typ t S) = ("java/lang/IllegalArgumentException", 0, (typ t S).1 0, Z) := by unfold rnQ; rw [er]; rfl
  have es : rnS (typ t S) = uB Z 0 (S.1 0) := by unfold rnS; rw [eq, f1]
  refine ⟨by rw [f2 0 (by decide)]; exact hS.2.1.okI, by rw [er]; rfl, by rw [eq], by rw [es]; exact z2.2.2.2.2.1, ?_⟩
  rw [es]
  exact xs_fz hS z2 hS.1 rfl (fun _ _ _ => rfl)
