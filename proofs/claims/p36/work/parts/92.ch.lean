/-! ===== p36: the line's signs are chars ===== -/
def ChA (X : GS) : Prop := ∀ i : Nat, narrow .char (.int (X.2.2.1 0 i)) = .int (X.2.2.1 0 i)
theorem nar_nar (x : Int32) : narrow .char (.int (vp_nar .char x)) = .int (vp_nar .char x) := by
  have h : ∀ y : UInt32, (((y % 65536).toInt32).toUInt32 % 65536).toInt32 = (y % 65536).toInt32 := by
    intro y
    have : ((y % 65536).toInt32).toUInt32 = y % 65536 := rfl
    rw [this, show y % 65536 % 65536 = y % 65536 from UInt32.toNat_inj.mp (by rw [UInt32.toNat_mod, UInt32.toNat_mod]; exact Nat.mod_mod _ _)]
  show Value.int _ = _
  exact congrArg Value.int (h _)
theorem ch_put {X : GS} (h : ChA X) (c : Int32) : ChA (x_X2_put X c) := by
  unfold x_X2_put
  refine ite_P (P := ChA) h (ite_P (P := ChA) h ?_)
  intro i
  show narrow .char (.int (up (X.2.2.1 0) _ (vp_nar .char c) i)) = .int (up (X.2.2.1 0) _ (vp_nar .char c) i)
  unfold up
  split
  · exact nar_nar c
  · exact h i
theorem ch_num {X : GS} (h : ChA X) (c : Int32) : ChA (x_X2_putNumber X c) := ite_P (P := ChA) (ch_put h _) (ch_put (ch_put h _) _)
theorem ch_piece {X : GS} (h : ChA X) (b : BD) (u : Int32) : ChA (x_X0_writePiece X b u) := ite_P (P := ChA) (ch_num (ch_put (ch_num h _) _) _) (ch_put (ch_num h _) _)
theorem ch_lw (b : BD) : ∀ (j i : Nat) (X : GS), ChA X → ChA (lp_X0_writePieces_6 b j i X)
  | 0, _, _, h => h
  | j + 1, i, X, h => by
    unfold lp_X0_writePieces_6
    split
    · split
      · exact ch_lw b j _ _ (ch_piece h _ _)
      · exact ch_lw b j _ _ (ch_piece (ch_put h _) _ _)
    · exact ch_lw b j _ _ h
theorem ch_line {X : GS} (h : ChA X) : ChA (sLine X) := ch_lw _ 64 0 (x_X2_clear X) h
theorem ch_arr {X X' : GS} (h : ChA X) (e : X'.2.2.1 0 = X.2.2.1 0) : ChA X' := by
  intro i
  rw [e]
  exact h i
/-- a state whose line's signs are another's -/
def A0 (X X' : GS) : Prop := X'.2.2.1 0 = X.2.2.1 0
theorem a0_keep (X : GS) (b : BD) : A0 X (x_X1_keep0 X b) := by
  unfold x_X1_keep0
  exact ite_P (P := A0 X) rfl rfl
theorem a0_rs {X X' : GS} (h : RS X X') : A0 X X' := by show X'.2.2.1 0 = X.2.2.1 0; rw [h.2.2]
theorem a0_op {X X' : GS} {b b' : BD} (hr : RS X X') {c : Prop} [Decidable c] : A0 X (uB (if c then x_X1_keep0 X' b else X') 0 b') := by
  have h1 := a0_rs hr
  show (if c then x_X1_keep0 X' b else X').2.2.1 0 = X.2.2.1 0
  split
  · exact (a0_keep X' b).trans h1
  · exact h1
theorem ch_lend {X : GS} (h : ChA X) (x y : Int32) : ChA (sLend X x y) := ch_arr h (a0_op (rs_jl _ _ _ _))
theorem ch_ask {X : GS} (h : ChA X) (x y : Int32) : ChA (sAsk X x y) := ch_arr h (a0_op (rs_ja _ _ _ _))
theorem ch_give {X : GS} (h : ChA X) (x : Int32) : ChA (sGive X x) := ch_arr h (a0_op RS.rf)
theorem ch_giveAll {X : GS} (h : ChA X) (x : Int32) : ChA (sGiveAll X x) := ch_arr h (a0_op (rs_jg _ _ _))
theorem ch_resize {X : GS} (h : ChA X) (x y : Int32) : ChA (sResize X x y) := ch_arr h (a0_op (rs_jr _ _ _ _))
theorem ch_way {X : GS} (h : ChA X) (x : Int32) : ChA (sWay X x) := ch_arr h (a0_op (rs_jw _ _ _))
theorem a0_jo (X : GS) (b : BD) (k x y : Int32) : A0 X (x_X7_judgeOrder X b k x y) := by
  unfold x_X7_judgeOrder
  repeat' (refine ite_P (P := A0 X) ?_ ?_)
  all_goals first | rfl | exact a0_rs (rs_jl _ _ _ _) | exact a0_rs (rs_ja _ _ _ _) | exact a0_rs (rs_jg _ _ _) | exact a0_rs (rs_jr _ _ _ _) | exact a0_rs (rs_jw _ _ _)
theorem a0_lrun : ∀ (j : Nat) (a1 a2 : Int32) (bb : BD) (XX : GS) (r1 r2 : Int32) (rb : BD) (rX : GS), lp_X7_run_51 j a1 a2 bb XX = some (r1, r2, rb, rX) → A0 XX rX := by
  intro j
  induction j with
  | zero => intro a1 a2 bb XX r1 r2 rb rX h; rw [lp_X7_run_51] at h; cases h
  | succ j ih =>
    intro a1 a2 bb XX r1 r2 rb rX h
    rw [lp_X7_run_51] at h
    split at h
    · obtain ⟨-, -, -, rfl⟩ := ret4_inv h; rfl
    · split at h
      · split at h
        · exact (ih _ _ _ _ _ _ _ _ h).trans (a0_jo _ _ _ _ _)
        · exact (ih _ _ _ _ _ _ _ _ h).trans (a0_jo _ _ _ _ _)
      · obtain ⟨-, -, -, rfl⟩ := ret4_inv h; rfl
/-- the run of a text that is read well, and carried out -/
theorem ch_run {t : List Int32} {X : GS} {n6 n6' e : Int32} {c : Nat} {o : List (Int32 × Int32)} (h : ChA X) (hr : rdK t n6 e n6' c o = true) (h4 : X.2.1 4 = 0) (h6 : X.2.1 6 = n6) (hl : t.length ≤ 60) (he : e = -1) (hs : (m_X7_run (typ t X) ((typ t X).1 0)).isSome = true) : ChA (rnS (typ t X)) := by
  obtain ⟨Z, z1, z2, z3, z4⟩ := rd_run hr h4 h6 hl
  have h7 : Z.2.1 7 = -1 := z2.2.2.2.2.1.trans he
  have er := run_eq (b := (typ t X).1 0) z1 h7
  generalize hb : (typ t X).1 0 = b at er hs
  have hZ : A0 X (uB Z 1 (cpB b (Z.1 1))) := z2.2.2.2.2.2
  have key : ∀ r, m_X7_run (typ t X) b = some r → A0 X r.2.2.2 := by
    intro r hr9
    rw [er] at hr9
    unfold runE at hr9
    cases hq : lp_X7_run_51 1000 0 0 b (uB Z 1 (cpB b (Z.1 1))) with
    | none => rw [hq] at hr9; cases hr9
    | some q =>
      obtain ⟨a1, a2, bb, XX⟩ := q
      have g := (a0_lrun _ _ _ _ _ _ _ _ _ hq).trans hZ
      rw [hq] at hr9
      have hr8 : (if a1 = 0 then some ("", (x_X1_keep1 XX).2.1 3, bb, x_X1_keep1 XX) else if a1 = 3 then some ("java/lang/UnsupportedOperationException", (0 : Int32), cpB (XX.1 1) bb, XX) else some ("java/lang/IllegalArgumentException", 0, cpB (XX.1 1) bb, XX)) = some r := hr9
      by_cases c0 : a1 = 0
      · rw [if_pos c0] at hr8
        cases hr8
        exact (a0_keep XX (XX.1 1)).trans g
      · rw [if_neg c0] at hr8
        by_cases c3 : a1 = 3
        · rw [if_pos c3] at hr8; cases hr8; exact g
        · rw [if_neg c3] at hr8; cases hr8; exact g
  obtain ⟨r, hr2⟩ := Option.isSome_iff_exists.mp hs
  have h9 := key r hr2
  have e9 : rnQ (typ t X) = r := by unfold rnQ; rw [hb, hr2]; rfl
  have es : rnS (typ t X) = uB r.2.2.2 0 r.2.2.1 := by unfold rnS; rw [e9]
  rw [es]
  generalize r.2.2.1 = b2
  generalize r.2.2.2 = X2 at h9
  exact ch_arr h h9
